/-! ===== Math ===== -/
theorem t_min {w : QWd} {sz : Nat} {post : QPo} {x y : Int} (hx : -2147483648 ≤ x ∧ x < 2147483648) (hy : -2147483648 ≤ y ∧ y < 2147483648) (h : post (some (.int (iI (if x ≤ y then x else y)))) w) : T_J9_min_7cf53 [.int (iI x), .int (iI y)] w sz post := by
  refine Ti_J9_min_7cf53 (fun G hG => hG (fun _ => false) 40 _ _ _ _ _ _ ?_)
  simp only [qe_x, qe_v, q_get, Bool.cond_false, Bool.cond_true, Nat.reduceAdd, Nat.reduceBEq, Nat.reduceLT, Nat.reduceLeDiff, Nat.add_zero, Nat.zero_add, Nat.le_refl, true_and, and_true, List.length_cons, List.length_nil, Option.some.injEq, exists_eq_left', exists_eq_left, exists_eq', reduceCtorEq, dJ9_min_7cf53_0, qe_iload_0, qe_il, dJ9_min_7cf53_1, qe_iload_1, dJ9_min_7cf53_2, qe_icmp_gt, q_br, q_tg, Int.reduceNatCast', Int.reduceAdd, Int.reduceToNat, Int.reduceLE, Int.reduceNeg, dJ9_min_7cf53_5, dJ9_min_7cf53_6, qe_goto, dJ9_min_7cf53_9, dJ9_min_7cf53_10, qe_iret, qe_nar_i, qe_nar_0, qe_nar_1]
  simp (disch := omega) only [iI_lt, iI_le]
  repeat' (first | refine And.intro ?_ ?_ | intro _)
  all_goals first | (rw [if_pos (by omega)] at h; exact h) | (rw [if_neg (by omega)] at h; exact h)
theorem t_max {w : QWd} {sz : Nat} {post : QPo} {x y : Int} (hx : -2147483648 ≤ x ∧ x < 2147483648) (hy : -2147483648 ≤ y ∧ y < 2147483648) (h : post (some (.int (iI (if x < y then y else x)))) w) : T_J9_max_7cf53 [.int (iI x), .int (iI y)] w sz post := by
  refine Ti_J9_max_7cf53 (fun G hG => hG (fun _ => false) 40 _ _ _ _ _ _ ?_)
  simp only [qe_x, qe_v, q_get, Bool.cond_false, Bool.cond_true, Nat.reduceAdd, Nat.reduceBEq, Nat.reduceLT, Nat.reduceLeDiff, Nat.add_zero, Nat.zero_add, Nat.le_refl, true_and, and_true, List.length_cons, List.length_nil, Option.some.injEq, exists_eq_left', exists_eq_left, exists_eq', reduceCtorEq, dJ9_max_7cf53_0, qe_iload_0, qe_il, dJ9_max_7cf53_1, qe_iload_1, dJ9_max_7cf53_2, qe_icmp_lt, q_br, q_tg, Int.reduceNatCast', Int.reduceAdd, Int.reduceToNat, Int.reduceLE, Int.reduceNeg, dJ9_max_7cf53_5, dJ9_max_7cf53_6, qe_goto, dJ9_max_7cf53_9, dJ9_max_7cf53_10, qe_iret, qe_nar_i, qe_nar_0, qe_nar_1]
  simp (disch := omega) only [iI_lt, iI_le]
  repeat' (first | refine And.intro ?_ ?_ | intro _)
  all_goals first | (rw [if_pos (by omega)] at h; exact h) | (rw [if_neg (by omega)] at h; exact h)
theorem t_absI {w : QWd} {sz : Nat} {post : QPo} {x : Int} (hx : -2147483648 ≤ x ∧ x < 2147483648) (h : post (some (.int (iI (iabs x)))) w) : T_J9_abs_0f7a4 [.int (iI x)] w sz post := by
  refine Ti_J9_abs_0f7a4 (fun G hG => hG (fun _ => false) 40 _ _ _ _ _ _ ?_)
  simp only [qe_x, qe_v, q_get, Bool.cond_false, Bool.cond_true, Nat.reduceAdd, Nat.reduceBEq, Nat.reduceLT, Nat.reduceLeDiff, Nat.add_zero, Nat.zero_add, Nat.le_refl, true_and, and_true, List.length_cons, List.length_nil, Option.some.injEq, exists_eq_left', exists_eq_left, exists_eq', reduceCtorEq, dJ9_abs_0f7a4_0, qe_iload_0, qe_il, dJ9_abs_0f7a4_1, qe_if_ge, q_br, q_tg, Int.reduceNatCast', Int.reduceAdd, Int.reduceToNat, Int.reduceLE, Int.reduceNeg, dJ9_abs_0f7a4_4, dJ9_abs_0f7a4_5, qe_ineg, dJ9_abs_0f7a4_6, qe_goto, dJ9_abs_0f7a4_9, dJ9_abs_0f7a4_10, qe_iret, qe_nar_i, qe_nar_0, qe_nar_1]
  simp (disch := omega) only [iI_lt, iI_le, iI_neg]
  unfold iabs at h
  repeat' (first | refine And.intro ?_ ?_ | intro _)
  all_goals first | (rw [if_pos (by omega)] at h; exact h) | (rw [if_neg (by omega)] at h; exact h)
theorem t_absL {w : QWd} {sz : Nat} {post : QPo} {x : Int} (hx : -9223372036854775808 ≤ x ∧ x < 9223372036854775808) (h : post (some (.long (lI (iabs x)))) w) : T_J9_abs_067f4 [.long (lI x)] w sz post := by
  refine Ti_J9_abs_067f4 (fun G hG => hG (fun _ => false) 40 _ _ _ _ _ _ ?_)
  simp only [qe_x, qe_v, q_get, Bool.cond_false, Bool.cond_true, Nat.reduceAdd, Nat.reduceBEq, Nat.reduceLT, Nat.reduceLeDiff, Nat.add_zero, Nat.zero_add, Nat.le_refl, true_and, and_true, List.length_cons, List.length_nil, Option.some.injEq, exists_eq_left', exists_eq_left, exists_eq', reduceCtorEq, dJ9_abs_067f4_0, qe_lload_0, qe_ll, dJ9_abs_067f4_1, qe_lconst0, dJ9_abs_067f4_2, qe_lcmp, iI_cmp_lt, iI_cmp_le, iI_cmp_ge, iI_cmp_gt, iI_cmp_eq, dJ9_abs_067f4_3, qe_if_ge, q_br, q_tg, Int.reduceNatCast', Int.reduceAdd, Int.reduceToNat, Int.reduceLE, Int.reduceNeg, dJ9_abs_067f4_6, dJ9_abs_067f4_7, qe_lneg, dJ9_abs_067f4_8, qe_goto, dJ9_abs_067f4_11, dJ9_abs_067f4_12, qe_lret]
  simp (disch := omega) only [lI_lt, lI_le, lI_neg]
  unfold iabs at h
  repeat' (first | refine And.intro ?_ ?_ | intro _)
  all_goals first | (rw [if_pos (by omega)] at h; exact h) | (rw [if_neg (by omega)] at h; exact h)
theorem lI_div {a b : Int} (h1 : -9223372036854775808 < a) (h2 : a < 9223372036854775808) (h3 : -9223372036854775808 < b) (h4 : b < 9223372036854775808) : lI a / lI b = lI (a.tdiv b) := by
  apply Int64.toInt_inj.mp
  have hb : (a.tdiv b).natAbs ≤ a.natAbs := by rw [Int.natAbs_tdiv]; exact Nat.div_le_self _ _
  rw [Int64.toInt_div_of_ne_left _ _ (by
    intro q
    have := congrArg Int64.toInt q
    rw [lI_toInt (by omega) h2] at this
    have e : Int64.minValue.toInt = -9223372036854775808 := by decide
    omega), lI_toInt (by omega) h2, lI_toInt (by omega) h4, lI_toInt (by omega) (by omega)]
theorem lI_xor_neg {a b : Int} (h1 : -9223372036854775808 ≤ a) (h2 : a < 9223372036854775808) (h3 : -9223372036854775808 ≤ b) (h4 : b < 9223372036854775808) : (lI 0 ≤ lI a ^^^ lI b) = ((0 ≤ a) = (0 ≤ b)) := by
  have e : ∀ x : Int64, (lI 0 ≤ x) = (x.toBitVec.msb = false) := by
    intro x
    apply propext
    rw [Int64.le_iff_toInt_le]
    show (0 : Int) ≤ x.toBitVec.toInt ↔ _
    rw [BitVec.msb_eq_toInt]
    simp
  have f : ∀ z : Int, -9223372036854775808 ≤ z → z < 9223372036854775808 → ((0 ≤ z) = ((lI z).toBitVec.msb = false)) := by
    intro z q1 q2
    rw [← e, lI_le (by omega) (by omega) q1 q2]
  rw [e, f a h1 h2, f b h3 h4, Int64.toBitVec_xor, BitVec.msb_xor]
  cases (lI a).toBitVec.msb <;> cases (lI b).toBitVec.msb <;> simp
theorem t_floorDiv {w : QWd} {sz : Nat} {post : QPo} {x y : Int} (hx : -4611686018427387904 < x ∧ x < 4611686018427387904) (hy : 0 < y ∧ y < 4611686018427387904) (h : post (some (.long (lI (x / y)))) w) : T_J9_floorDiv_f86c9 [.long (lI x), .long (lI y)] w sz post := by
  obtain ⟨hx1, hx2⟩ := hx
  obtain ⟨hy1, hy2⟩ := hy
  refine Ti_J9_floorDiv_f86c9 (fun G hG => hG (fun _ => false) 40 _ _ _ _ _ _ ?_)
  have hb : (x.tdiv y).natAbs ≤ x.natAbs := by rw [Int.natAbs_tdiv]; exact Nat.div_le_self _ _
  have e1 : x.tdiv y * y + x.tmod y = x := Int.tdiv_mul_add_tmod x y
  simp only [qe_x, qe_v, q_get, Bool.cond_false, Bool.cond_true, Nat.reduceAdd, Nat.reduceBEq, Nat.reduceLT, Nat.reduceLeDiff, Nat.add_zero, Nat.zero_add, Nat.le_refl, true_and, and_true, List.length_cons, List.length_nil, Option.some.injEq, exists_eq_left', exists_eq_left, exists_eq', reduceCtorEq, dJ9_floorDiv_f86c9_0, qe_lload_0, qe_ll, dJ9_floorDiv_f86c9_1, qe_lload_2, dJ9_floorDiv_f86c9_2, qe_ldiv, dJ9_floorDiv_f86c9_3, qe_lstore, q_st1, q_st2, q_clr, Value.category, Nat.reduceEqDiff, reduceIte, dJ9_floorDiv_f86c9_5, dJ9_floorDiv_f86c9_6, dJ9_floorDiv_f86c9_7, qe_lxor, dJ9_floorDiv_f86c9_8, qe_lconst0, dJ9_floorDiv_f86c9_9, qe_lcmp, iI_cmp_lt, iI_cmp_le, iI_cmp_ge, iI_cmp_gt, iI_cmp_eq, dJ9_floorDiv_f86c9_10, qe_if_ge, q_br, q_tg, Int.reduceNatCast', Int.reduceAdd, Int.reduceToNat, Int.reduceLE, Int.reduceNeg, dJ9_floorDiv_f86c9_13, qe_lload, dJ9_floorDiv_f86c9_15, dJ9_floorDiv_f86c9_16, qe_lmul, dJ9_floorDiv_f86c9_17, dJ9_floorDiv_f86c9_18, dJ9_floorDiv_f86c9_19, qe_if_eq, dJ9_floorDiv_f86c9_22, dJ9_floorDiv_f86c9_24, qe_lconst1, dJ9_floorDiv_f86c9_25, qe_lsub, dJ9_floorDiv_f86c9_26, qe_lret, dJ9_floorDiv_f86c9_27, dJ9_floorDiv_f86c9_29]
  simp (disch := omega) only [lI_div, lI_mul, lI_sub, lI_eq]
  refine ⟨fun q => by omega, ?_⟩
  rw [lI_xor_neg (by omega) (by omega) (by omega) (by omega)]
  have hm : 0 ≤ x → 0 ≤ x.tmod y := fun q => Int.tmod_nonneg y q
  have hm2 : x.tmod y < y := Int.tmod_lt_of_pos x hy1
  have hm3 : x ≤ 0 → x.tmod y ≤ 0 := fun q => by
    have := Int.tmod_nonneg y (show 0 ≤ -x by omega)
    rw [Int.neg_tmod] at this
    omega
  have hm4 : -y < x.tmod y := Int.lt_tmod_of_pos x hy1
  have hr : ∀ k r : Int, k * y + r = x → 0 ≤ r → r < y → x / y = k := fun k r q1 q2 q3 => by
    rw [← q1, Int.add_comm, Int.add_mul_ediv_right _ _ (by omega), Int.ediv_eq_zero_of_lt q2 q3, Int.zero_add]
  refine ⟨fun q => ?_, fun q => ?_⟩
  · have hx0 : 0 ≤ x := by
      have : (0 ≤ y) := by omega
      rw [← q] at this
      exact this
    rw [hr _ _ e1 (hm hx0) hm2] at h
    exact h
  · have hx0 : x < 0 := by
      rcases Int.lt_or_le x 0 with z | z
      · exact z
      · exact absurd (propext ⟨fun _ => by omega, fun _ => z⟩) q
    rw [lI_eq (by omega) (by omega) (by omega) (by omega)]
    refine ⟨fun q2 => ?_, fun q2 => ?_⟩
    · rw [hr (x.tdiv y) 0 (by omega) (by omega) hy1] at h
      exact h
    · rw [hr (x.tdiv y - 1) (x.tmod y + y) (by rw [Int.sub_mul]; omega) (by omega) (by have := hm3 (by omega); omega)] at h
      exact h
/-! ===== Format: atMost, has, counts, covers ===== -/
def fcl (t v : Int) : Int := if (if v ≤ t then v else t) ≤ -t then -t else (if v ≤ t then v else t)
theorem fcl_rng {t v : Int} (h : 0 ≤ t) : -t ≤ fcl t v ∧ fcl t v ≤ t := by
  unfold fcl
  split <;> split <;> omega
theorem fcl_id {t v : Int} (h : 0 ≤ t) (h1 : -t ≤ v) (h2 : v ≤ t) : fcl t v = v := by
  unfold fcl
  rw [if_pos h2]
  split <;> omega
theorem ffl_rng {p lo hi : Nat} (hF : Fok p lo hi) {v : Int} {M : Int} (h1 : -M ≤ v) (h2 : v ≤ M) (hM : M ≤ 1048576) : -2147483648 ≤ v / 2 ^ fbits p lo hi (iabs v) ∧ v / 2 ^ fbits p lo hi (iabs v) < 2147483648 := ediv_rng (pw_pos _) (by omega) (by omega) (by omega) (by omega)
theorem ffl_le {p lo hi : Nat} (hF : Fok p lo hi) {v : Int} (h1 : -1048576 ≤ v) (h2 : v ≤ 1048576) : -2097152 ≤ ffl p lo hi v ∧ ffl p lo hi v ≤ v := by
  obtain ⟨q1, q2, q3, q4⟩ := id hF
  have hb := fbits_rng hF (iabs v)
  have e1 := pw_pos (fbits p lo hi (iabs v))
  have e2 := pw_20 (p := fbits p lo hi (iabs v)) (by omega)
  have e3 := Int.ediv_mul_le v (b := 2 ^ fbits p lo hi (iabs v)) (by omega)
  have e4 := Int.lt_ediv_add_one_mul_self v e1
  rw [Int.add_mul, Int.one_mul] at e4
  unfold ffl
  omega
theorem t_atMost {a : Nat} {w : QWd} {sz : Nat} {post : QPo} {p lo hi : Nat} {v : Int} (hF : Fok p lo hi) (hw : w a = some (cFmt p lo hi)) (hv : -2147483648 ≤ v ∧ v < 2147483648) (h : post (some (.int (iI (ffl p lo hi (fcl (ftop p hi) v))))) w) : T_X0_atMost [.ref a, .int (iI v)] w sz post := by
  have ht := ftop_rng hF
  have hc := fcl_rng (t := ftop p hi) (v := v) (by omega)
  obtain ⟨h1, h2, h3, h4⟩ := id hF
  refine Ti_X0_atMost (fun G hG => hG (fun _ => false) 40 _ _ _ _ _ _ ?_)
  simp only [qe_x, qe_v, q_get, Bool.cond_false, Bool.cond_true, Nat.reduceAdd, Nat.reduceBEq, Nat.reduceLT, Nat.reduceLeDiff, Nat.add_zero, Nat.zero_add, Nat.le_refl, true_and, and_true, List.length_cons, List.length_nil, Option.some.injEq, exists_eq_left', exists_eq_left, exists_eq', reduceCtorEq, dX0_atMost_0, qe_aload_0, qe_al, dX0_atMost_1, qe_invv, ms_X0_atMost_21, qe_c0, qe_c1, qe_c2, qe_c3, qe_c8, qe_c9, qe_cs, qe_cv, qe_tk, qe_tk0, qe_cat0, qe_cati, qe_catl, qe_catr, qe_catn, qe_ob, qe_cpy, qe_tl, qe_tl0, dX0_atMost_4, qe_istore_2, q_st1, q_st2, q_clr, Value.category, Nat.reduceEqDiff, reduceIte, dX0_atMost_5, qe_iload_2, qe_il, dX0_atMost_6, qe_ineg, dX0_atMost_7, qe_iload_1, dX0_atMost_8, dX0_atMost_9, qe_invs, ms_X0_atMost_25, dX0_atMost_12, ms_X0_atMost_31, dX0_atMost_15, qe_istore_3, dX0_atMost_16, dX0_atMost_17, qe_iload_3, dX0_atMost_18, ms_X0_atMost_34, dX0_atMost_21, ms_X0_atMost_38, dX0_atMost_24, qe_istore, dX0_atMost_26, dX0_atMost_27, qe_iload, dX0_atMost_29, qe_ishr, dX0_atMost_30, dX0_atMost_32, qe_ishl, dX0_atMost_33, qe_iret, qe_nar_i, qe_nar_0, qe_nar_1, q_kl, hw]
  refine ⟨⟨_, rfl⟩, t_top hF hw ?_⟩
  simp only [qe_x, qe_v, q_get, Bool.cond_false, Bool.cond_true, Nat.reduceAdd, Nat.reduceBEq, Nat.reduceLT, Nat.reduceLeDiff, Nat.add_zero, Nat.zero_add, Nat.le_refl, true_and, and_true, List.length_cons, List.length_nil, Option.some.injEq, exists_eq_left', exists_eq_left, exists_eq', reduceCtorEq, dX0_atMost_0, qe_aload_0, qe_al, dX0_atMost_1, qe_invv, ms_X0_atMost_21, qe_c0, qe_c1, qe_c2, qe_c3, qe_c8, qe_c9, qe_cs, qe_cv, qe_tk, qe_tk0, qe_cat0, qe_cati, qe_catl, qe_catr, qe_catn, qe_ob, qe_cpy, qe_tl, qe_tl0, dX0_atMost_4, qe_istore_2, q_st1, q_st2, q_clr, Value.category, Nat.reduceEqDiff, reduceIte, dX0_atMost_5, qe_iload_2, qe_il, dX0_atMost_6, qe_ineg, dX0_atMost_7, qe_iload_1, dX0_atMost_8, dX0_atMost_9, qe_invs, ms_X0_atMost_25, dX0_atMost_12, ms_X0_atMost_31, dX0_atMost_15, qe_istore_3, dX0_atMost_16, dX0_atMost_17, qe_iload_3, dX0_atMost_18, ms_X0_atMost_34, dX0_atMost_21, ms_X0_atMost_38, dX0_atMost_24, qe_istore, dX0_atMost_26, dX0_atMost_27, qe_iload, dX0_atMost_29, qe_ishr, dX0_atMost_30, dX0_atMost_32, qe_ishl, dX0_atMost_33, qe_iret, qe_nar_i, qe_nar_0, qe_nar_1, iI_neg]
  refine t_min ⟨by omega, by omega⟩ ⟨by omega, by omega⟩ ?_
  simp only [qe_x, qe_v, q_get, Bool.cond_false, Bool.cond_true, Nat.reduceAdd, Nat.reduceBEq, Nat.reduceLT, Nat.reduceLeDiff, Nat.add_zero, Nat.zero_add, Nat.le_refl, true_and, and_true, List.length_cons, List.length_nil, Option.some.injEq, exists_eq_left', exists_eq_left, exists_eq', reduceCtorEq, dX0_atMost_0, qe_aload_0, qe_al, dX0_atMost_1, qe_invv, ms_X0_atMost_21, qe_c0, qe_c1, qe_c2, qe_c3, qe_c8, qe_c9, qe_cs, qe_cv, qe_tk, qe_tk0, qe_cat0, qe_cati, qe_catl, qe_catr, qe_catn, qe_ob, qe_cpy, qe_tl, qe_tl0, dX0_atMost_4, qe_istore_2, q_st1, q_st2, q_clr, Value.category, Nat.reduceEqDiff, reduceIte, dX0_atMost_5, qe_iload_2, qe_il, dX0_atMost_6, qe_ineg, dX0_atMost_7, qe_iload_1, dX0_atMost_8, dX0_atMost_9, qe_invs, ms_X0_atMost_25, dX0_atMost_12, ms_X0_atMost_31, dX0_atMost_15, qe_istore_3, dX0_atMost_16, dX0_atMost_17, qe_iload_3, dX0_atMost_18, ms_X0_atMost_34, dX0_atMost_21, ms_X0_atMost_38, dX0_atMost_24, qe_istore, dX0_atMost_26, dX0_atMost_27, qe_iload, dX0_atMost_29, qe_ishr, dX0_atMost_30, dX0_atMost_32, qe_ishl, dX0_atMost_33, qe_iret, qe_nar_i, qe_nar_0, qe_nar_1]
  refine t_max ⟨by omega, by omega⟩ ⟨by split <;> omega, by split <;> omega⟩ ?_
  have e : (if -ftop p hi < (if v ≤ ftop p hi then v else ftop p hi) then (if v ≤ ftop p hi then v else ftop p hi) else -ftop p hi) = fcl (ftop p hi) v := by
    unfold fcl
    split <;> split <;> split <;> omega
  rw [e]
  simp only [qe_x, qe_v, q_get, Bool.cond_false, Bool.cond_true, Nat.reduceAdd, Nat.reduceBEq, Nat.reduceLT, Nat.reduceLeDiff, Nat.add_zero, Nat.zero_add, Nat.le_refl, true_and, and_true, List.length_cons, List.length_nil, Option.some.injEq, exists_eq_left', exists_eq_left, exists_eq', reduceCtorEq, dX0_atMost_0, qe_aload_0, qe_al, dX0_atMost_1, qe_invv, ms_X0_atMost_21, qe_c0, qe_c1, qe_c2, qe_c3, qe_c8, qe_c9, qe_cs, qe_cv, qe_tk, qe_tk0, qe_cat0, qe_cati, qe_catl, qe_catr, qe_catn, qe_ob, qe_cpy, qe_tl, qe_tl0, dX0_atMost_4, qe_istore_2, q_st1, q_st2, q_clr, Value.category, Nat.reduceEqDiff, reduceIte, dX0_atMost_5, qe_iload_2, qe_il, dX0_atMost_6, qe_ineg, dX0_atMost_7, qe_iload_1, dX0_atMost_8, dX0_atMost_9, qe_invs, ms_X0_atMost_25, dX0_atMost_12, ms_X0_atMost_31, dX0_atMost_15, qe_istore_3, dX0_atMost_16, dX0_atMost_17, qe_iload_3, dX0_atMost_18, ms_X0_atMost_34, dX0_atMost_21, ms_X0_atMost_38, dX0_atMost_24, qe_istore, dX0_atMost_26, dX0_atMost_27, qe_iload, dX0_atMost_29, qe_ishr, dX0_atMost_30, dX0_atMost_32, qe_ishl, dX0_atMost_33, qe_iret, qe_nar_i, qe_nar_0, qe_nar_1]
  refine t_absI ⟨by omega, by omega⟩ ?_
  simp only [qe_x, qe_v, q_get, Bool.cond_false, Bool.cond_true, Nat.reduceAdd, Nat.reduceBEq, Nat.reduceLT, Nat.reduceLeDiff, Nat.add_zero, Nat.zero_add, Nat.le_refl, true_and, and_true, List.length_cons, List.length_nil, Option.some.injEq, exists_eq_left', exists_eq_left, exists_eq', reduceCtorEq, dX0_atMost_0, qe_aload_0, qe_al, dX0_atMost_1, qe_invv, ms_X0_atMost_21, qe_c0, qe_c1, qe_c2, qe_c3, qe_c8, qe_c9, qe_cs, qe_cv, qe_tk, qe_tk0, qe_cat0, qe_cati, qe_catl, qe_catr, qe_catn, qe_ob, qe_cpy, qe_tl, qe_tl0, dX0_atMost_4, qe_istore_2, q_st1, q_st2, q_clr, Value.category, Nat.reduceEqDiff, reduceIte, dX0_atMost_5, qe_iload_2, qe_il, dX0_atMost_6, qe_ineg, dX0_atMost_7, qe_iload_1, dX0_atMost_8, dX0_atMost_9, qe_invs, ms_X0_atMost_25, dX0_atMost_12, ms_X0_atMost_31, dX0_atMost_15, qe_istore_3, dX0_atMost_16, dX0_atMost_17, qe_iload_3, dX0_atMost_18, ms_X0_atMost_34, dX0_atMost_21, ms_X0_atMost_38, dX0_atMost_24, qe_istore, dX0_atMost_26, dX0_atMost_27, qe_iload, dX0_atMost_29, qe_ishr, dX0_atMost_30, dX0_atMost_32, qe_ishl, dX0_atMost_33, qe_iret, qe_nar_i, qe_nar_0, qe_nar_1, q_kl, hw]
  refine ⟨⟨_, rfl⟩, t_spacing hF hw ⟨by unfold iabs; split <;> omega, by unfold iabs; split <;> omega⟩ ?_⟩
  simp only [qe_x, qe_v, q_get, Bool.cond_false, Bool.cond_true, Nat.reduceAdd, Nat.reduceBEq, Nat.reduceLT, Nat.reduceLeDiff, Nat.add_zero, Nat.zero_add, Nat.le_refl, true_and, and_true, List.length_cons, List.length_nil, Option.some.injEq, exists_eq_left', exists_eq_left, exists_eq', reduceCtorEq, dX0_atMost_0, qe_aload_0, qe_al, dX0_atMost_1, qe_invv, ms_X0_atMost_21, qe_c0, qe_c1, qe_c2, qe_c3, qe_c8, qe_c9, qe_cs, qe_cv, qe_tk, qe_tk0, qe_cat0, qe_cati, qe_catl, qe_catr, qe_catn, qe_ob, qe_cpy, qe_tl, qe_tl0, dX0_atMost_4, qe_istore_2, q_st1, q_st2, q_clr, Value.category, Nat.reduceEqDiff, reduceIte, dX0_atMost_5, qe_iload_2, qe_il, dX0_atMost_6, qe_ineg, dX0_atMost_7, qe_iload_1, dX0_atMost_8, dX0_atMost_9, qe_invs, ms_X0_atMost_25, dX0_atMost_12, ms_X0_atMost_31, dX0_atMost_15, qe_istore_3, dX0_atMost_16, dX0_atMost_17, qe_iload_3, dX0_atMost_18, ms_X0_atMost_34, dX0_atMost_21, ms_X0_atMost_38, dX0_atMost_24, qe_istore, dX0_atMost_26, dX0_atMost_27, qe_iload, dX0_atMost_29, qe_ishr, dX0_atMost_30, dX0_atMost_32, qe_ishl, dX0_atMost_33, qe_iret, qe_nar_i, qe_nar_0, qe_nar_1]
  have hb := fbits_rng hF (iabs (fcl (ftop p hi) v))
  simp (disch := omega) only [iI_shr, iI_shl, Int.toNat_natCast]
  exact h
theorem t_has {a : Nat} {w : QWd} {sz : Nat} {post : QPo} {p lo hi : Nat} {v : Int} (hF : Fok p lo hi) (hw : w a = some (cFmt p lo hi)) (hv : -2147483648 ≤ v ∧ v < 2147483648) (h : post (some (.int (iI (if ffl p lo hi (fcl (ftop p hi) v) = v then 1 else 0)))) w) : T_X0_has [.ref a, .int (iI v)] w sz post := by
  have ht := ftop_rng hF
  have hc := fcl_rng (t := ftop p hi) (v := v) (by omega)
  have hf := ffl_le hF (v := fcl (ftop p hi) v) (by omega) (by omega)
  refine Ti_X0_has (fun G hG => hG (fun _ => false) 40 _ _ _ _ _ _ ?_)
  simp only [qe_x, qe_v, q_get, Bool.cond_false, Bool.cond_true, Nat.reduceAdd, Nat.reduceBEq, Nat.reduceLT, Nat.reduceLeDiff, Nat.add_zero, Nat.zero_add, Nat.le_refl, true_and, and_true, List.length_cons, List.length_nil, Option.some.injEq, exists_eq_left', exists_eq_left, exists_eq', reduceCtorEq, dX0_has_0, qe_aload_0, qe_al, dX0_has_1, qe_iload_1, qe_il, dX0_has_2, qe_invv, ms_X0_has_41, qe_c0, qe_c1, qe_c2, qe_c3, qe_c8, qe_c9, qe_cs, qe_cv, qe_tk, qe_tk0, qe_cat0, qe_cati, qe_catl, qe_catr, qe_catn, qe_ob, qe_cpy, qe_tl, qe_tl0, dX0_has_5, dX0_has_6, qe_icmp_ne, q_br, q_tg, Int.reduceNatCast', Int.reduceAdd, Int.reduceToNat, Int.reduceLE, Int.reduceNeg, dX0_has_9, qe_iconst, dX0_has_10, qe_goto, dX0_has_13, dX0_has_14, qe_iret, qe_nar_i, qe_nar_0, qe_nar_1, q_kl, hw]
  refine ⟨⟨_, rfl⟩, t_atMost hF hw hv ?_⟩
  simp only [qe_x, qe_v, q_get, Bool.cond_false, Bool.cond_true, Nat.reduceAdd, Nat.reduceBEq, Nat.reduceLT, Nat.reduceLeDiff, Nat.add_zero, Nat.zero_add, Nat.le_refl, true_and, and_true, List.length_cons, List.length_nil, Option.some.injEq, exists_eq_left', exists_eq_left, exists_eq', reduceCtorEq, dX0_has_0, qe_aload_0, qe_al, dX0_has_1, qe_iload_1, qe_il, dX0_has_2, qe_invv, ms_X0_has_41, qe_c0, qe_c1, qe_c2, qe_c3, qe_c8, qe_c9, qe_cs, qe_cv, qe_tk, qe_tk0, qe_cat0, qe_cati, qe_catl, qe_catr, qe_catn, qe_ob, qe_cpy, qe_tl, qe_tl0, dX0_has_5, dX0_has_6, qe_icmp_ne, q_br, q_tg, Int.reduceNatCast', Int.reduceAdd, Int.reduceToNat, Int.reduceLE, Int.reduceNeg, dX0_has_9, qe_iconst, dX0_has_10, qe_goto, dX0_has_13, dX0_has_14, qe_iret, qe_nar_i, qe_nar_0, qe_nar_1]
  simp (disch := omega) only [iI_eq]
  repeat' (first | refine And.intro ?_ ?_ | intro _)
  all_goals first | (rw [if_pos (by omega)] at h; exact h) | (rw [if_neg (by omega)] at h; exact h)
def fcp (p lo hi : Nat) (v : Int) : Int := ((fbits p lo hi (if v ≤ ftop p hi then v else ftop p hi) : Int) - lo) * 2 ^ (p - 1) + (if v ≤ ftop p hi then v else ftop p hi) / 2 ^ fbits p lo hi (if v ≤ ftop p hi then v else ftop p hi)
def fcu (p lo hi : Nat) (v : Int) : Int := if v < 0 then fcp p lo hi (ftop p hi) - fcp p lo hi (-v - 1) else fcp p lo hi (ftop p hi) + 1 + fcp p lo hi v
theorem t_countPos {a : Nat} {w : QWd} {sz : Nat} {post : QPo} {p lo hi : Nat} {v : Int} (hF : Fok p lo hi) (hw : w a = some (cFmt p lo hi)) (hv : 0 ≤ v ∧ v < 2147483648) (h : post (some (.int (iI (fcp p lo hi v)))) w) : T_X0_countPositivesUpTo [.ref a, .int (iI v)] w sz post := by
  have ht := ftop_rng hF
  obtain ⟨h1, h2, h3, h4⟩ := id hF
  refine Ti_X0_countPositivesUpTo (fun G hG => hG (fun _ => false) 40 _ _ _ _ _ _ ?_)
  simp only [qe_x, qe_v, q_get, Bool.cond_false, Bool.cond_true, Nat.reduceAdd, Nat.reduceBEq, Nat.reduceLT, Nat.reduceLeDiff, Nat.add_zero, Nat.zero_add, Nat.le_refl, true_and, and_true, List.length_cons, List.length_nil, Option.some.injEq, exists_eq_left', exists_eq_left, exists_eq', reduceCtorEq, dX0_countPositivesUpTo_0, qe_iload_1, qe_il, dX0_countPositivesUpTo_1, qe_aload_0, qe_al, dX0_countPositivesUpTo_2, qe_invv, ms_X0_countPositivesUpTo_21, qe_c0, qe_c1, qe_c2, qe_c3, qe_c8, qe_c9, qe_cs, qe_cv, qe_tk, qe_tk0, qe_cat0, qe_cati, qe_catl, qe_catr, qe_catn, qe_ob, qe_cpy, qe_tl, qe_tl0, dX0_countPositivesUpTo_5, qe_invs, ms_X0_countPositivesUpTo_25, dX0_countPositivesUpTo_8, qe_istore_2, q_st1, q_st2, q_clr, Value.category, Nat.reduceEqDiff, reduceIte, dX0_countPositivesUpTo_9, dX0_countPositivesUpTo_10, qe_iload_2, dX0_countPositivesUpTo_11, ms_X0_countPositivesUpTo_38, dX0_countPositivesUpTo_14, qe_istore_3, dX0_countPositivesUpTo_15, qe_iload_3, dX0_countPositivesUpTo_16, dX0_countPositivesUpTo_17, qe_get, qF_0_15, qe_gf, qe_fg, List.getElem?_cons_zero, List.getElem?_cons_succ, dX0_countPositivesUpTo_20, qe_isub, dX0_countPositivesUpTo_21, qe_bipush, Int.reduceLE, Int.reduceLT, Int.reduceNeg, dX0_countPositivesUpTo_23, dX0_countPositivesUpTo_24, qe_istore, dX0_countPositivesUpTo_26, qe_iload, dX0_countPositivesUpTo_28, dX0_countPositivesUpTo_29, qF_0_9, dX0_countPositivesUpTo_32, qe_iconst, dX0_countPositivesUpTo_33, dX0_countPositivesUpTo_34, qe_ishl, dX0_countPositivesUpTo_35, dX0_countPositivesUpTo_36, dX0_countPositivesUpTo_37, qe_ishr, dX0_countPositivesUpTo_38, qe_iadd, dX0_countPositivesUpTo_39, qe_iret, qe_nar_i, qe_nar_0, qe_nar_1, q_kl, hw]
  refine ⟨⟨_, rfl⟩, t_top hF hw ?_⟩
  simp only [qe_x, qe_v, q_get, Bool.cond_false, Bool.cond_true, Nat.reduceAdd, Nat.reduceBEq, Nat.reduceLT, Nat.reduceLeDiff, Nat.add_zero, Nat.zero_add, Nat.le_refl, true_and, and_true, List.length_cons, List.length_nil, Option.some.injEq, exists_eq_left', exists_eq_left, exists_eq', reduceCtorEq, dX0_countPositivesUpTo_0, qe_iload_1, qe_il, dX0_countPositivesUpTo_1, qe_aload_0, qe_al, dX0_countPositivesUpTo_2, qe_invv, ms_X0_countPositivesUpTo_21, qe_c0, qe_c1, qe_c2, qe_c3, qe_c8, qe_c9, qe_cs, qe_cv, qe_tk, qe_tk0, qe_cat0, qe_cati, qe_catl, qe_catr, qe_catn, qe_ob, qe_cpy, qe_tl, qe_tl0, dX0_countPositivesUpTo_5, qe_invs, ms_X0_countPositivesUpTo_25, dX0_countPositivesUpTo_8, qe_istore_2, q_st1, q_st2, q_clr, Value.category, Nat.reduceEqDiff, reduceIte, dX0_countPositivesUpTo_9, dX0_countPositivesUpTo_10, qe_iload_2, dX0_countPositivesUpTo_11, ms_X0_countPositivesUpTo_38, dX0_countPositivesUpTo_14, qe_istore_3, dX0_countPositivesUpTo_15, qe_iload_3, dX0_countPositivesUpTo_16, dX0_countPositivesUpTo_17, qe_get, qF_0_15, qe_gf, qe_fg, List.getElem?_cons_zero, List.getElem?_cons_succ, dX0_countPositivesUpTo_20, qe_isub, dX0_countPositivesUpTo_21, qe_bipush, Int.reduceLE, Int.reduceLT, Int.reduceNeg, dX0_countPositivesUpTo_23, dX0_countPositivesUpTo_24, qe_istore, dX0_countPositivesUpTo_26, qe_iload, dX0_countPositivesUpTo_28, dX0_countPositivesUpTo_29, qF_0_9, dX0_countPositivesUpTo_32, qe_iconst, dX0_countPositivesUpTo_33, dX0_countPositivesUpTo_34, qe_ishl, dX0_countPositivesUpTo_35, dX0_countPositivesUpTo_36, dX0_countPositivesUpTo_37, qe_ishr, dX0_countPositivesUpTo_38, qe_iadd, dX0_countPositivesUpTo_39, qe_iret, qe_nar_i, qe_nar_0, qe_nar_1]
  refine t_min ⟨by omega, by omega⟩ ⟨by omega, by omega⟩ ?_
  simp only [qe_x, qe_v, q_get, Bool.cond_false, Bool.cond_true, Nat.reduceAdd, Nat.reduceBEq, Nat.reduceLT, Nat.reduceLeDiff, Nat.add_zero, Nat.zero_add, Nat.le_refl, true_and, and_true, List.length_cons, List.length_nil, Option.some.injEq, exists_eq_left', exists_eq_left, exists_eq', reduceCtorEq, dX0_countPositivesUpTo_0, qe_iload_1, qe_il, dX0_countPositivesUpTo_1, qe_aload_0, qe_al, dX0_countPositivesUpTo_2, qe_invv, ms_X0_countPositivesUpTo_21, qe_c0, qe_c1, qe_c2, qe_c3, qe_c8, qe_c9, qe_cs, qe_cv, qe_tk, qe_tk0, qe_cat0, qe_cati, qe_catl, qe_catr, qe_catn, qe_ob, qe_cpy, qe_tl, qe_tl0, dX0_countPositivesUpTo_5, qe_invs, ms_X0_countPositivesUpTo_25, dX0_countPositivesUpTo_8, qe_istore_2, q_st1, q_st2, q_clr, Value.category, Nat.reduceEqDiff, reduceIte, dX0_countPositivesUpTo_9, dX0_countPositivesUpTo_10, qe_iload_2, dX0_countPositivesUpTo_11, ms_X0_countPositivesUpTo_38, dX0_countPositivesUpTo_14, qe_istore_3, dX0_countPositivesUpTo_15, qe_iload_3, dX0_countPositivesUpTo_16, dX0_countPositivesUpTo_17, qe_get, qF_0_15, qe_gf, qe_fg, List.getElem?_cons_zero, List.getElem?_cons_succ, dX0_countPositivesUpTo_20, qe_isub, dX0_countPositivesUpTo_21, qe_bipush, Int.reduceLE, Int.reduceLT, Int.reduceNeg, dX0_countPositivesUpTo_23, dX0_countPositivesUpTo_24, qe_istore, dX0_countPositivesUpTo_26, qe_iload, dX0_countPositivesUpTo_28, dX0_countPositivesUpTo_29, qF_0_9, dX0_countPositivesUpTo_32, qe_iconst, dX0_countPositivesUpTo_33, dX0_countPositivesUpTo_34, qe_ishl, dX0_countPositivesUpTo_35, dX0_countPositivesUpTo_36, dX0_countPositivesUpTo_37, qe_ishr, dX0_countPositivesUpTo_38, qe_iadd, dX0_countPositivesUpTo_39, qe_iret, qe_nar_i, qe_nar_0, qe_nar_1, q_kl, hw]
  unfold fcp at h
  generalize hm : (if v ≤ ftop p hi then v else ftop p hi) = m at h ⊢
  have hmr : 0 ≤ m ∧ m ≤ 1048575 := by rw [← hm]; split <;> omega
  refine ⟨⟨_, rfl⟩, t_spacing hF hw ⟨by omega, by omega⟩ ?_⟩
  have hb := fbits_rng hF m
  simp only [qe_x, qe_v, q_get, Bool.cond_false, Bool.cond_true, Nat.reduceAdd, Nat.reduceBEq, Nat.reduceLT, Nat.reduceLeDiff, Nat.add_zero, Nat.zero_add, Nat.le_refl, true_and, and_true, List.length_cons, List.length_nil, Option.some.injEq, exists_eq_left', exists_eq_left, exists_eq', reduceCtorEq, dX0_countPositivesUpTo_0, qe_iload_1, qe_il, dX0_countPositivesUpTo_1, qe_aload_0, qe_al, dX0_countPositivesUpTo_2, qe_invv, ms_X0_countPositivesUpTo_21, qe_c0, qe_c1, qe_c2, qe_c3, qe_c8, qe_c9, qe_cs, qe_cv, qe_tk, qe_tk0, qe_cat0, qe_cati, qe_catl, qe_catr, qe_catn, qe_ob, qe_cpy, qe_tl, qe_tl0, dX0_countPositivesUpTo_5, qe_invs, ms_X0_countPositivesUpTo_25, dX0_countPositivesUpTo_8, qe_istore_2, q_st1, q_st2, q_clr, Value.category, Nat.reduceEqDiff, reduceIte, dX0_countPositivesUpTo_9, dX0_countPositivesUpTo_10, qe_iload_2, dX0_countPositivesUpTo_11, ms_X0_countPositivesUpTo_38, dX0_countPositivesUpTo_14, qe_istore_3, dX0_countPositivesUpTo_15, qe_iload_3, dX0_countPositivesUpTo_16, dX0_countPositivesUpTo_17, qe_get, qF_0_15, qe_gf, qe_fg, List.getElem?_cons_zero, List.getElem?_cons_succ, dX0_countPositivesUpTo_20, qe_isub, dX0_countPositivesUpTo_21, qe_bipush, Int.reduceLE, Int.reduceLT, Int.reduceNeg, dX0_countPositivesUpTo_23, dX0_countPositivesUpTo_24, qe_istore, dX0_countPositivesUpTo_26, qe_iload, dX0_countPositivesUpTo_28, dX0_countPositivesUpTo_29, qF_0_9, dX0_countPositivesUpTo_32, qe_iconst, dX0_countPositivesUpTo_33, dX0_countPositivesUpTo_34, qe_ishl, dX0_countPositivesUpTo_35, dX0_countPositivesUpTo_36, dX0_countPositivesUpTo_37, qe_ishr, dX0_countPositivesUpTo_38, qe_iadd, dX0_countPositivesUpTo_39, qe_iret, qe_nar_i, qe_nar_0, qe_nar_1, hw]
  simp (disch := omega) only [iI_sub, iI_add, iI_shl, iI_shr, Int.toNat_natCast]
  rw [show ((p : Int) - 1).toNat = p - 1 by omega, show (fbits p lo hi m : Int) - ((lo : Int) - 10) - 10 = (fbits p lo hi m : Int) - lo by omega]
  exact h
theorem t_countUpTo {a : Nat} {w : QWd} {sz : Nat} {post : QPo} {p lo hi : Nat} {v : Int} (hF : Fok p lo hi) (hw : w a = some (cFmt p lo hi)) (hv : -2147483648 < v ∧ v < 2147483648) (h : post (some (.int (iI (fcu p lo hi v)))) w) : T_X0_countUpTo [.ref a, .int (iI v)] w sz post := by
  have ht := ftop_rng hF
  refine Ti_X0_countUpTo (fun G hG => hG (fun _ => false) 40 _ _ _ _ _ _ ?_)
  simp only [qe_x, qe_v, q_get, Bool.cond_false, Bool.cond_true, Nat.reduceAdd, Nat.reduceBEq, Nat.reduceLT, Nat.reduceLeDiff, Nat.add_zero, Nat.zero_add, Nat.le_refl, true_and, and_true, List.length_cons, List.length_nil, Option.some.injEq, exists_eq_left', exists_eq_left, exists_eq', reduceCtorEq, dX0_countUpTo_0, qe_aload_0, qe_al, dX0_countUpTo_1, dX0_countUpTo_2, qe_invv, ms_X0_countUpTo_21, qe_c0, qe_c1, qe_c2, qe_c3, qe_c8, qe_c9, qe_cs, qe_cv, qe_tk, qe_tk0, qe_cat0, qe_cati, qe_catl, qe_catr, qe_catn, qe_ob, qe_cpy, qe_tl, qe_tl0, dX0_countUpTo_5, ms_X0_countUpTo_44, dX0_countUpTo_8, qe_istore_2, q_st1, q_st2, q_clr, Value.category, Nat.reduceEqDiff, reduceIte, dX0_countUpTo_9, qe_iload_1, qe_il, dX0_countUpTo_10, qe_if_ge, q_br, q_tg, Int.reduceNatCast', Int.reduceAdd, Int.reduceToNat, Int.reduceLE, Int.reduceNeg, dX0_countUpTo_13, qe_iload_2, dX0_countUpTo_14, dX0_countUpTo_15, dX0_countUpTo_16, qe_ineg, dX0_countUpTo_17, qe_iconst, dX0_countUpTo_18, qe_isub, dX0_countUpTo_19, dX0_countUpTo_22, dX0_countUpTo_23, qe_iret, qe_nar_i, qe_nar_0, qe_nar_1, dX0_countUpTo_24, dX0_countUpTo_25, dX0_countUpTo_26, qe_iadd, dX0_countUpTo_27, dX0_countUpTo_28, dX0_countUpTo_29, dX0_countUpTo_32, dX0_countUpTo_33, q_kl, hw]
  refine ⟨⟨_, rfl⟩, t_top hF hw ?_⟩
  simp only [qe_x, qe_v, q_get, Bool.cond_false, Bool.cond_true, Nat.reduceAdd, Nat.reduceBEq, Nat.reduceLT, Nat.reduceLeDiff, Nat.add_zero, Nat.zero_add, Nat.le_refl, true_and, and_true, List.length_cons, List.length_nil, Option.some.injEq, exists_eq_left', exists_eq_left, exists_eq', reduceCtorEq, dX0_countUpTo_0, qe_aload_0, qe_al, dX0_countUpTo_1, dX0_countUpTo_2, qe_invv, ms_X0_countUpTo_21, qe_c0, qe_c1, qe_c2, qe_c3, qe_c8, qe_c9, qe_cs, qe_cv, qe_tk, qe_tk0, qe_cat0, qe_cati, qe_catl, qe_catr, qe_catn, qe_ob, qe_cpy, qe_tl, qe_tl0, dX0_countUpTo_5, ms_X0_countUpTo_44, dX0_countUpTo_8, qe_istore_2, q_st1, q_st2, q_clr, Value.category, Nat.reduceEqDiff, reduceIte, dX0_countUpTo_9, qe_iload_1, qe_il, dX0_countUpTo_10, qe_if_ge, q_br, q_tg, Int.reduceNatCast', Int.reduceAdd, Int.reduceToNat, Int.reduceLE, Int.reduceNeg, dX0_countUpTo_13, qe_iload_2, dX0_countUpTo_14, dX0_countUpTo_15, dX0_countUpTo_16, qe_ineg, dX0_countUpTo_17, qe_iconst, dX0_countUpTo_18, qe_isub, dX0_countUpTo_19, dX0_countUpTo_22, dX0_countUpTo_23, qe_iret, qe_nar_i, qe_nar_0, qe_nar_1, dX0_countUpTo_24, dX0_countUpTo_25, dX0_countUpTo_26, qe_iadd, dX0_countUpTo_27, dX0_countUpTo_28, dX0_countUpTo_29, dX0_countUpTo_32, dX0_countUpTo_33, q_kl, hw]
  refine ⟨⟨_, rfl⟩, t_countPos hF hw ⟨by omega, by omega⟩ ?_⟩
  simp only [qe_x, qe_v, q_get, Bool.cond_false, Bool.cond_true, Nat.reduceAdd, Nat.reduceBEq, Nat.reduceLT, Nat.reduceLeDiff, Nat.add_zero, Nat.zero_add, Nat.le_refl, true_and, and_true, List.length_cons, List.length_nil, Option.some.injEq, exists_eq_left', exists_eq_left, exists_eq', reduceCtorEq, dX0_countUpTo_0, qe_aload_0, qe_al, dX0_countUpTo_1, dX0_countUpTo_2, qe_invv, ms_X0_countUpTo_21, qe_c0, qe_c1, qe_c2, qe_c3, qe_c8, qe_c9, qe_cs, qe_cv, qe_tk, qe_tk0, qe_cat0, qe_cati, qe_catl, qe_catr, qe_catn, qe_ob, qe_cpy, qe_tl, qe_tl0, dX0_countUpTo_5, ms_X0_countUpTo_44, dX0_countUpTo_8, qe_istore_2, q_st1, q_st2, q_clr, Value.category, Nat.reduceEqDiff, reduceIte, dX0_countUpTo_9, qe_iload_1, qe_il, dX0_countUpTo_10, qe_if_ge, q_br, q_tg, Int.reduceNatCast', Int.reduceAdd, Int.reduceToNat, Int.reduceLE, Int.reduceNeg, dX0_countUpTo_13, qe_iload_2, dX0_countUpTo_14, dX0_countUpTo_15, dX0_countUpTo_16, qe_ineg, dX0_countUpTo_17, qe_iconst, dX0_countUpTo_18, qe_isub, dX0_countUpTo_19, dX0_countUpTo_22, dX0_countUpTo_23, qe_iret, qe_nar_i, qe_nar_0, qe_nar_1, dX0_countUpTo_24, dX0_countUpTo_25, dX0_countUpTo_26, qe_iadd, dX0_countUpTo_27, dX0_countUpTo_28, dX0_countUpTo_29, dX0_countUpTo_32, dX0_countUpTo_33, q_kl, hw]
  simp (disch := omega) only [iI_le, iI_neg, iI_sub]
  unfold fcu at h
  refine ⟨fun q => ⟨⟨_, rfl⟩, t_countPos hF hw ⟨by omega, by omega⟩ ?_⟩, fun q => ⟨⟨_, rfl⟩, t_countPos hF hw ⟨by omega, by omega⟩ ?_⟩⟩
  · rw [if_neg (by omega)] at h
    simp only [qe_x, qe_v, q_get, Bool.cond_false, Bool.cond_true, Nat.reduceAdd, Nat.reduceBEq, Nat.reduceLT, Nat.reduceLeDiff, Nat.add_zero, Nat.zero_add, Nat.le_refl, true_and, and_true, List.length_cons, List.length_nil, Option.some.injEq, exists_eq_left', exists_eq_left, exists_eq', reduceCtorEq, dX0_countUpTo_0, qe_aload_0, qe_al, dX0_countUpTo_1, dX0_countUpTo_2, qe_invv, ms_X0_countUpTo_21, qe_c0, qe_c1, qe_c2, qe_c3, qe_c8, qe_c9, qe_cs, qe_cv, qe_tk, qe_tk0, qe_cat0, qe_cati, qe_catl, qe_catr, qe_catn, qe_ob, qe_cpy, qe_tl, qe_tl0, dX0_countUpTo_5, ms_X0_countUpTo_44, dX0_countUpTo_8, qe_istore_2, q_st1, q_st2, q_clr, Value.category, Nat.reduceEqDiff, reduceIte, dX0_countUpTo_9, qe_iload_1, qe_il, dX0_countUpTo_10, qe_if_ge, q_br, q_tg, Int.reduceNatCast', Int.reduceAdd, Int.reduceToNat, Int.reduceLE, Int.reduceNeg, dX0_countUpTo_13, qe_iload_2, dX0_countUpTo_14, dX0_countUpTo_15, dX0_countUpTo_16, qe_ineg, dX0_countUpTo_17, qe_iconst, dX0_countUpTo_18, qe_isub, dX0_countUpTo_19, dX0_countUpTo_22, dX0_countUpTo_23, qe_iret, qe_nar_i, qe_nar_0, qe_nar_1, dX0_countUpTo_24, dX0_countUpTo_25, dX0_countUpTo_26, qe_iadd, dX0_countUpTo_27, dX0_countUpTo_28, dX0_countUpTo_29, dX0_countUpTo_32, dX0_countUpTo_33, iI_add]
    exact h
  · rw [if_pos (by omega)] at h
    simp only [qe_x, qe_v, q_get, Bool.cond_false, Bool.cond_true, Nat.reduceAdd, Nat.reduceBEq, Nat.reduceLT, Nat.reduceLeDiff, Nat.add_zero, Nat.zero_add, Nat.le_refl, true_and, and_true, List.length_cons, List.length_nil, Option.some.injEq, exists_eq_left', exists_eq_left, exists_eq', reduceCtorEq, dX0_countUpTo_0, qe_aload_0, qe_al, dX0_countUpTo_1, dX0_countUpTo_2, qe_invv, ms_X0_countUpTo_21, qe_c0, qe_c1, qe_c2, qe_c3, qe_c8, qe_c9, qe_cs, qe_cv, qe_tk, qe_tk0, qe_cat0, qe_cati, qe_catl, qe_catr, qe_catn, qe_ob, qe_cpy, qe_tl, qe_tl0, dX0_countUpTo_5, ms_X0_countUpTo_44, dX0_countUpTo_8, qe_istore_2, q_st1, q_st2, q_clr, Value.category, Nat.reduceEqDiff, reduceIte, dX0_countUpTo_9, qe_iload_1, qe_il, dX0_countUpTo_10, qe_if_ge, q_br, q_tg, Int.reduceNatCast', Int.reduceAdd, Int.reduceToNat, Int.reduceLE, Int.reduceNeg, dX0_countUpTo_13, qe_iload_2, dX0_countUpTo_14, dX0_countUpTo_15, dX0_countUpTo_16, qe_ineg, dX0_countUpTo_17, qe_iconst, dX0_countUpTo_18, qe_isub, dX0_countUpTo_19, dX0_countUpTo_22, dX0_countUpTo_23, qe_iret, qe_nar_i, qe_nar_0, qe_nar_1, dX0_countUpTo_24, dX0_countUpTo_25, dX0_countUpTo_26, qe_iadd, dX0_countUpTo_27, dX0_countUpTo_28, dX0_countUpTo_29, dX0_countUpTo_32, dX0_countUpTo_33, iI_sub]
    exact h
/-- whether a format has the longest odd numbers of the exponents from e on -/
def fcv (p lo hi p' : Nat) : Nat → Nat → Bool
  | 0, _ => true
  | n + 1, e => if ffl p lo hi (fcl (ftop p hi) (ftop p' e)) = ftop p' e then fcv p lo hi p' n (e + 1) else false
theorem t_covers {a b : Nat} {w : QWd} {sz : Nat} {post : QPo} {p lo hi p' lo' hi' : Nat} (hF : Fok p lo hi) (hF' : Fok p' lo' hi') (hw : w a = some (cFmt p lo hi)) (hw' : w b = some (cFmt p' lo' hi')) (h : post (some (.int (iI (if fcv p lo hi p' (hi' + 1 - lo') lo' = true then 1 else 0)))) w) : T_X0_covers [.ref a, .ref b] w sz post := by
  obtain ⟨h1, h2, h3, h4⟩ := id hF'
  refine Ti_X0_covers (fun G hG => ?_)
  have loop : ∀ n e : Nat, e + n = hi' + 1 → lo' ≤ e → fcv p lo hi p' n e = fcv p lo hi p' (hi' + 1 - lo') lo' → G 14 [some (.ref a), some (.ref b), some (.int (iI (2 ^ p' - 1))), some (.int (iI ((e : Int) - 10)))] [] w sz 0 := by
    intro n
    induction n with
    | zero =>
      intro e he hlo hv
      refine hG (fun pc => pc == 14) 20 _ _ _ _ _ _ ?_
      simp only [qe_x, qe_v, q_get, Bool.cond_false, Bool.cond_true, Nat.reduceAdd, Nat.reduceBEq, Nat.reduceLT, Nat.reduceLeDiff, Nat.add_zero, Nat.zero_add, Nat.le_refl, true_and, and_true, List.length_cons, List.length_nil, Option.some.injEq, exists_eq_left', exists_eq_left, exists_eq', reduceCtorEq, dX0_covers_0, qe_iconst, dX0_covers_1, qe_aload_1, qe_al, dX0_covers_2, qe_get, qF_0_9, qe_gf, qe_fg, List.getElem?_cons_zero, List.getElem?_cons_succ, dX0_covers_5, qe_ishl, dX0_covers_6, dX0_covers_7, qe_isub, dX0_covers_8, qe_istore_2, q_st1, q_st2, q_clr, Value.category, Nat.reduceEqDiff, reduceIte, dX0_covers_9, dX0_covers_10, qF_0_15, dX0_covers_13, qe_istore_3, dX0_covers_14, qe_iload_3, qe_il, dX0_covers_15, dX0_covers_16, qF_0_18, dX0_covers_19, qe_icmp_gt, q_br, q_tg, Int.reduceNatCast', Int.reduceAdd, Int.reduceToNat, Int.reduceLE, Int.reduceNeg, dX0_covers_22, qe_aload_0, dX0_covers_23, qe_iload_2, dX0_covers_24, dX0_covers_25, qe_bipush, Int.reduceLT, dX0_covers_27, qe_iadd, dX0_covers_28, dX0_covers_29, qe_invv, ms_X0_covers_47, qe_c0, qe_c1, qe_c2, qe_c3, qe_c8, qe_c9, qe_cs, qe_cv, qe_tk, qe_tk0, qe_cat0, qe_cati, qe_catl, qe_catr, qe_catn, qe_ob, qe_cpy, qe_tl, qe_tl0, dX0_covers_32, qe_if_ne, dX0_covers_35, dX0_covers_36, qe_iret, qe_nar_i, qe_nar_0, qe_nar_1, dX0_covers_37, qe_iinc, qe_ii, dX0_covers_40, qe_goto, dX0_covers_43, dX0_covers_44, hw, hw']
      simp (disch := omega) only [iI_lt]
      refine ⟨fun _ => ?_, fun q => absurd (show (hi' : Int) - 10 < e - 10 by omega) q⟩
      rw [← hv, show fcv p lo hi p' 0 e = true from rfl, if_pos rfl] at h
      exact h
    | succ n ih =>
      intro e he hlo hv
      have htp := ftop_rng (p := p') (lo := lo') (hi := hi') hF'
      have hte : 0 ≤ ftop p' e ∧ ftop p' e ≤ ftop p' hi' := by
        have g1 : (1 : Int) ≤ 2 ^ p' := pw_pos p'
        have g2 := pw_pos e
        have g3 := pw_le (a := e) (b := hi') (by omega)
        exact ⟨Int.mul_nonneg (by omega) (by omega), Int.mul_le_mul_of_nonneg_left g3 (by omega)⟩
      refine hG (fun pc => pc == 14) 20 _ _ _ _ _ _ ?_
      simp only [qe_x, qe_v, q_get, Bool.cond_false, Bool.cond_true, Nat.reduceAdd, Nat.reduceBEq, Nat.reduceLT, Nat.reduceLeDiff, Nat.add_zero, Nat.zero_add, Nat.le_refl, true_and, and_true, List.length_cons, List.length_nil, Option.some.injEq, exists_eq_left', exists_eq_left, exists_eq', reduceCtorEq, dX0_covers_0, qe_iconst, dX0_covers_1, qe_aload_1, qe_al, dX0_covers_2, qe_get, qF_0_9, qe_gf, qe_fg, List.getElem?_cons_zero, List.getElem?_cons_succ, dX0_covers_5, qe_ishl, dX0_covers_6, dX0_covers_7, qe_isub, dX0_covers_8, qe_istore_2, q_st1, q_st2, q_clr, Value.category, Nat.reduceEqDiff, reduceIte, dX0_covers_9, dX0_covers_10, qF_0_15, dX0_covers_13, qe_istore_3, dX0_covers_14, qe_iload_3, qe_il, dX0_covers_15, dX0_covers_16, qF_0_18, dX0_covers_19, qe_icmp_gt, q_br, q_tg, Int.reduceNatCast', Int.reduceAdd, Int.reduceToNat, Int.reduceLE, Int.reduceNeg, dX0_covers_22, qe_aload_0, dX0_covers_23, qe_iload_2, dX0_covers_24, dX0_covers_25, qe_bipush, Int.reduceLT, dX0_covers_27, qe_iadd, dX0_covers_28, dX0_covers_29, qe_invv, ms_X0_covers_47, qe_c0, qe_c1, qe_c2, qe_c3, qe_c8, qe_c9, qe_cs, qe_cv, qe_tk, qe_tk0, qe_cat0, qe_cati, qe_catl, qe_catr, qe_catn, qe_ob, qe_cpy, qe_tl, qe_tl0, dX0_covers_32, qe_if_ne, dX0_covers_35, dX0_covers_36, qe_iret, qe_nar_i, qe_nar_0, qe_nar_1, dX0_covers_37, qe_iinc, qe_ii, dX0_covers_40, qe_goto, dX0_covers_43, dX0_covers_44, hw, hw', q_kl]
      simp (disch := omega) only [iI_lt, iI_add, iI_shl]
      refine ⟨fun q => absurd q (by omega), fun _ => ⟨⟨_, rfl⟩, ?_⟩⟩
      rw [show ((e : Int) - 10 + 10).toNat = e by omega]
      change T_X0_has [_, .int (iI (ftop p' e))] _ _ _
      refine t_has hF hw ⟨by omega, by omega⟩ ?_
      simp only [qe_x, qe_v, q_get, Bool.cond_false, Bool.cond_true, Nat.reduceAdd, Nat.reduceBEq, Nat.reduceLT, Nat.reduceLeDiff, Nat.add_zero, Nat.zero_add, Nat.le_refl, true_and, and_true, List.length_cons, List.length_nil, Option.some.injEq, exists_eq_left', exists_eq_left, exists_eq', reduceCtorEq, dX0_covers_0, qe_iconst, dX0_covers_1, qe_aload_1, qe_al, dX0_covers_2, qe_get, qF_0_9, qe_gf, qe_fg, List.getElem?_cons_zero, List.getElem?_cons_succ, dX0_covers_5, qe_ishl, dX0_covers_6, dX0_covers_7, qe_isub, dX0_covers_8, qe_istore_2, q_st1, q_st2, q_clr, Value.category, Nat.reduceEqDiff, reduceIte, dX0_covers_9, dX0_covers_10, qF_0_15, dX0_covers_13, qe_istore_3, dX0_covers_14, qe_iload_3, qe_il, dX0_covers_15, dX0_covers_16, qF_0_18, dX0_covers_19, qe_icmp_gt, q_br, q_tg, Int.reduceNatCast', Int.reduceAdd, Int.reduceToNat, Int.reduceLE, Int.reduceNeg, dX0_covers_22, qe_aload_0, dX0_covers_23, qe_iload_2, dX0_covers_24, dX0_covers_25, qe_bipush, Int.reduceLT, dX0_covers_27, qe_iadd, dX0_covers_28, dX0_covers_29, qe_invv, ms_X0_covers_47, qe_c0, qe_c1, qe_c2, qe_c3, qe_c8, qe_c9, qe_cs, qe_cv, qe_tk, qe_tk0, qe_cat0, qe_cati, qe_catl, qe_catr, qe_catn, qe_ob, qe_cpy, qe_tl, qe_tl0, dX0_covers_32, qe_if_ne, dX0_covers_35, dX0_covers_36, qe_iret, qe_nar_i, qe_nar_0, qe_nar_1, dX0_covers_37, qe_iinc, qe_ii, dX0_covers_40, qe_goto, dX0_covers_43, dX0_covers_44]
      by_cases hc : ffl p lo hi (fcl (ftop p hi) (ftop p' e)) = ftop p' e
      · have e1 : fcv p lo hi p' (n + 1) e = fcv p lo hi p' n (e + 1) := by show (if _ then _ else _) = _; rw [if_pos hc]
        simp (disch := omega) only [if_pos hc, iI_eq, iI_add]
        refine ⟨fun _ => ?_, fun q => absurd q (by omega)⟩
        rw [show (e : Int) - 10 + 1 = ((e + 1 : Nat) : Int) - 10 by omega]
        exact ih (e + 1) (by omega) (by omega) (by rw [← e1]; exact hv)
      · have e1 : fcv p lo hi p' (n + 1) e = false := by show (if _ then _ else _) = _; rw [if_neg hc]
        simp (disch := omega) only [if_neg hc, iI_eq]
        refine ⟨fun q => absurd trivial q, fun _ => ?_⟩
        rw [← hv, e1, if_neg (by decide)] at h
        exact h
  refine hG (fun pc => pc == 14) 20 _ _ _ _ _ _ ?_
  simp only [qe_x, qe_v, q_get, Bool.cond_false, Bool.cond_true, Nat.reduceAdd, Nat.reduceBEq, Nat.reduceLT, Nat.reduceLeDiff, Nat.add_zero, Nat.zero_add, Nat.le_refl, true_and, and_true, List.length_cons, List.length_nil, Option.some.injEq, exists_eq_left', exists_eq_left, exists_eq', reduceCtorEq, dX0_covers_0, qe_iconst, dX0_covers_1, qe_aload_1, qe_al, dX0_covers_2, qe_get, qF_0_9, qe_gf, qe_fg, List.getElem?_cons_zero, List.getElem?_cons_succ, dX0_covers_5, qe_ishl, dX0_covers_6, dX0_covers_7, qe_isub, dX0_covers_8, qe_istore_2, q_st1, q_st2, q_clr, Value.category, Nat.reduceEqDiff, reduceIte, dX0_covers_9, dX0_covers_10, qF_0_15, dX0_covers_13, qe_istore_3, dX0_covers_14, qe_iload_3, qe_il, dX0_covers_15, dX0_covers_16, qF_0_18, dX0_covers_19, qe_icmp_gt, q_br, q_tg, Int.reduceNatCast', Int.reduceAdd, Int.reduceToNat, Int.reduceLE, Int.reduceNeg, dX0_covers_22, qe_aload_0, dX0_covers_23, qe_iload_2, dX0_covers_24, dX0_covers_25, qe_bipush, Int.reduceLT, dX0_covers_27, qe_iadd, dX0_covers_28, dX0_covers_29, qe_invv, ms_X0_covers_47, qe_c0, qe_c1, qe_c2, qe_c3, qe_c8, qe_c9, qe_cs, qe_cv, qe_tk, qe_tk0, qe_cat0, qe_cati, qe_catl, qe_catr, qe_catn, qe_ob, qe_cpy, qe_tl, qe_tl0, dX0_covers_32, qe_if_ne, dX0_covers_35, dX0_covers_36, qe_iret, qe_nar_i, qe_nar_0, qe_nar_1, dX0_covers_37, qe_iinc, qe_ii, dX0_covers_40, qe_goto, dX0_covers_43, dX0_covers_44, hw, hw']
  simp (disch := omega) only [iI_sub, iI_shl, Int.toNat_natCast, Int.one_mul]
  exact loop (hi' + 1 - lo') lo' (by omega) (Nat.le_refl _) rfl
