/-! ===== Model: clearAccount ===== -/
section
variable {M : Nat} {y : QY} {w : QWd} {sz : Nat} {post : QPo}
theorem pgH_a {S : QSt} {E : QLe} {z : Nat} (hz : z < 7) : pgH S E (33 + z) = eSu E z := by
  unfold pgH
  rw [if_neg (by omega), if_neg (by omega), if_neg (by omega), if_neg (by omega), if_neg (by omega), if_neg (by omega), if_neg (by omega), if_neg (by omega), show 33 + z - 33 = z by omega]
theorem pgH_e {S : QSt} {E E' : QLe} {j : Nat} (hj : j < 33) (he : eSz E = eSz E') : pgH S E j = pgH S E' j := by
  unfold pgH
  rw [he]
  repeat' split
  all_goals first | rfl | omega
theorem m_clrAcc (hm : mAt w M y) (hy : yOk y) (h : ∀ w', mAt w' M (aClrAcc y).2 → fr w w' M 11 → post (some (.int (aClrAcc y).1)) w') : T_X8_clearAccount [.ref M] w sz post := by
  unfold aClrAcc at h
  obtain ⟨⟨lo, up, ov, um, us, un, xu, xd, ld, st, sp, bk, od, en, h0⟩, ⟨f, hp, hf⟩, ha⟩ := id hm
  refine Ti_X8_clearAccount (fun G hG => ?_)
  have loop : ∀ (g0 : Nat → Int64), pgY g0 (yPush y) → ∀ (k c : Nat) (v : QWd) (g : Nat → Int64), c + k = 7 → v M = some (cMo M (iI (yH (yPush y)).1) (iI (yP y)) (iI (yL y)) lo up ov um us un xu xd ld st sp bk od en) → v (M + 1) = some (aLng 7896 g) → fr w v M 2 → (∀ j, g j = if 33 ≤ j ∧ j < 33 + c then lI 0 else g0 j) → G 14 [some (.ref M), some (.long (eSu (yE y) 0)), none, some (.int (iI c))] [] v sz 0 := by
    intro g0 hg0 k
    induction k with
    | zero =>
      intro c v g hc v0 v1 fv hg
      refine hG (fun pc => pc == 14) 60 _ _ _ _ _ _ ?_
      simp only [qe_x, qe_v, q_get, Bool.cond_false, Bool.cond_true, Nat.reduceAdd, Nat.reduceBEq, Nat.reduceLT, Nat.reduceLeDiff, Nat.add_zero, Nat.zero_add, Nat.le_refl, true_and, and_true, List.length_cons, List.length_nil, Option.some.injEq, exists_eq_left', exists_eq_left, exists_eq', reduceCtorEq, dX8_clearAccount_0, qe_aload_0, qe_al, dX8_clearAccount_1, qe_invv, ms_X8_clearAccount_105, qe_c0, qe_c1, qe_c2, qe_c3, qe_c8, qe_c9, qe_cs, qe_cv, qe_tk, qe_tk0, qe_cat0, qe_cati, qe_catl, qe_catr, qe_catn, qe_ob, qe_cpy, qe_tl, qe_tl0, dX8_clearAccount_4, dX8_clearAccount_5, qe_get, qF_8_7, qe_gf, qe_fg, List.getElem?_cons_zero, List.getElem?_cons_succ, dX8_clearAccount_8, qe_bipush, Int.reduceLE, Int.reduceLT, Int.reduceNeg, dX8_clearAccount_10, qe_lald, qe_aj, dX8_clearAccount_11, qe_lstore_1, q_st1, q_st2, q_clr, Value.category, Nat.reduceEqDiff, reduceIte, dX8_clearAccount_12, qe_iconst, dX8_clearAccount_13, qe_istore_3, dX8_clearAccount_14, qe_iload_3, qe_il, dX8_clearAccount_15, dX8_clearAccount_17, qe_icmp_gt, q_br, q_tg, Int.reduceNatCast', Int.reduceAdd, Int.reduceToNat, dX8_clearAccount_20, dX8_clearAccount_21, dX8_clearAccount_24, dX8_clearAccount_26, dX8_clearAccount_27, qe_iadd, dX8_clearAccount_28, qe_lconst0, dX8_clearAccount_29, qe_last, qe_bj, dX8_clearAccount_30, qe_iinc, qe_ii, dX8_clearAccount_33, qe_goto, dX8_clearAccount_36, qe_lload_1, qe_ll, dX8_clearAccount_37, qe_ldc2, qe_pk, qDi_8_278, dX8_clearAccount_40, qe_land, dX8_clearAccount_41, qe_l2i, dX8_clearAccount_42, qe_iret, qe_nar_i, qe_nar_0, qe_nar_1]
      simp (disch := omega) only [iI_lt]
      refine ⟨fun _ => ?_, fun q => absurd (show (6 : Int) < c by omega) q⟩
      refine h v ⟨⟨_, _, _, _, _, _, _, _, _, _, _, _, _, _, v0⟩, ⟨g, v1, ?_⟩, ha.fr fv (by omega)⟩ (fv.up (by omega) (by omega))
      refine hg0.st (yPush_ok hy) (fun j hj => by rw [hg, if_neg (by omega)]) ⟨fun j hj => ?_, fun i hi j hj => ?_⟩
      · rw [Nat.zero_add, hg]
        by_cases q : 33 ≤ j
        · rw [if_pos (by omega)]
          obtain ⟨z, rfl⟩ : ∃ z, j = 33 + z := ⟨j - 33, by omega⟩
          rw [pgH_a (by omega)]
        · rw [if_neg (by omega)]
          have := hg0.1.1 j hj
          rw [Nat.zero_add] at this
          rw [this]
          exact pgH_e (by omega) rfl
      · rw [hg, if_neg (by omega)]
        exact hg0.1.2 i hi j hj
    | succ k ih =>
      intro c v g hc v0 v1 fv hg
      refine hG (fun pc => pc == 14) 60 _ _ _ _ _ _ ?_
      simp only [qe_x, qe_v, q_get, Bool.cond_false, Bool.cond_true, Nat.reduceAdd, Nat.reduceBEq, Nat.reduceLT, Nat.reduceLeDiff, Nat.add_zero, Nat.zero_add, Nat.le_refl, true_and, and_true, List.length_cons, List.length_nil, Option.some.injEq, exists_eq_left', exists_eq_left, exists_eq', reduceCtorEq, dX8_clearAccount_0, qe_aload_0, qe_al, dX8_clearAccount_1, qe_invv, ms_X8_clearAccount_105, qe_c0, qe_c1, qe_c2, qe_c3, qe_c8, qe_c9, qe_cs, qe_cv, qe_tk, qe_tk0, qe_cat0, qe_cati, qe_catl, qe_catr, qe_catn, qe_ob, qe_cpy, qe_tl, qe_tl0, dX8_clearAccount_4, dX8_clearAccount_5, qe_get, qF_8_7, qe_gf, qe_fg, List.getElem?_cons_zero, List.getElem?_cons_succ, dX8_clearAccount_8, qe_bipush, Int.reduceLE, Int.reduceLT, Int.reduceNeg, dX8_clearAccount_10, qe_lald, qe_aj, dX8_clearAccount_11, qe_lstore_1, q_st1, q_st2, q_clr, Value.category, Nat.reduceEqDiff, reduceIte, dX8_clearAccount_12, qe_iconst, dX8_clearAccount_13, qe_istore_3, dX8_clearAccount_14, qe_iload_3, qe_il, dX8_clearAccount_15, dX8_clearAccount_17, qe_icmp_gt, q_br, q_tg, Int.reduceNatCast', Int.reduceAdd, Int.reduceToNat, dX8_clearAccount_20, dX8_clearAccount_21, dX8_clearAccount_24, dX8_clearAccount_26, dX8_clearAccount_27, qe_iadd, dX8_clearAccount_28, qe_lconst0, dX8_clearAccount_29, qe_last, qe_bj, dX8_clearAccount_30, qe_iinc, qe_ii, dX8_clearAccount_33, qe_goto, dX8_clearAccount_36, qe_lload_1, qe_ll, dX8_clearAccount_37, qe_ldc2, qe_pk, qDi_8_278, dX8_clearAccount_40, qe_land, dX8_clearAccount_41, qe_l2i, dX8_clearAccount_42, qe_iret, qe_nar_i, qe_nar_0, qe_nar_1, v0, v1, iI_add]
      rw [show (33 : Int) + (c : Int) = ((33 + c : Nat) : Int) by omega]
      simp (disch := omega) only [iI_lt, iI_inN, iI_clN, true_and]
      refine ⟨fun q => absurd q (by omega), fun _ => ih (c + 1) _ _ (by omega) (by rw [q_set_n _ _ (by omega)]; exact v0) (q_set_s _ _ _) (fv.set (by omega) (by omega)) (fun j => ?_)⟩
      by_cases q : j = 33 + c
      · rw [q, pk_uLs, if_pos (by omega)]
      · rw [pk_uLn q, hg j]
        by_cases q2 : 33 ≤ j ∧ j < 33 + c
        · rw [if_pos q2, if_pos (by omega)]
        · rw [if_neg q2, if_neg (by omega)]
  refine hG (fun pc => pc == 14) 60 _ _ _ _ _ _ ?_
  simp only [qe_x, qe_v, q_get, Bool.cond_false, Bool.cond_true, Nat.reduceAdd, Nat.reduceBEq, Nat.reduceLT, Nat.reduceLeDiff, Nat.add_zero, Nat.zero_add, Nat.le_refl, true_and, and_true, List.length_cons, List.length_nil, Option.some.injEq, exists_eq_left', exists_eq_left, exists_eq', reduceCtorEq, dX8_clearAccount_0, qe_aload_0, qe_al, dX8_clearAccount_1, qe_invv, ms_X8_clearAccount_105, qe_c0, qe_c1, qe_c2, qe_c3, qe_c8, qe_c9, qe_cs, qe_cv, qe_tk, qe_tk0, qe_cat0, qe_cati, qe_catl, qe_catr, qe_catn, qe_ob, qe_cpy, qe_tl, qe_tl0, dX8_clearAccount_4, dX8_clearAccount_5, qe_get, qF_8_7, qe_gf, qe_fg, List.getElem?_cons_zero, List.getElem?_cons_succ, dX8_clearAccount_8, qe_bipush, Int.reduceLE, Int.reduceLT, Int.reduceNeg, dX8_clearAccount_10, qe_lald, qe_aj, dX8_clearAccount_11, qe_lstore_1, q_st1, q_st2, q_clr, Value.category, Nat.reduceEqDiff, reduceIte, dX8_clearAccount_12, qe_iconst, dX8_clearAccount_13, qe_istore_3, dX8_clearAccount_14, qe_iload_3, qe_il, dX8_clearAccount_15, dX8_clearAccount_17, qe_icmp_gt, q_br, q_tg, Int.reduceNatCast', Int.reduceAdd, Int.reduceToNat, dX8_clearAccount_20, dX8_clearAccount_21, dX8_clearAccount_24, dX8_clearAccount_26, dX8_clearAccount_27, qe_iadd, dX8_clearAccount_28, qe_lconst0, dX8_clearAccount_29, qe_last, qe_bj, dX8_clearAccount_30, qe_iinc, qe_ii, dX8_clearAccount_33, qe_goto, dX8_clearAccount_36, qe_lload_1, qe_ll, dX8_clearAccount_37, qe_ldc2, qe_pk, qDi_8_278, dX8_clearAccount_40, qe_land, dX8_clearAccount_41, qe_l2i, dX8_clearAccount_42, qe_iret, qe_nar_i, qe_nar_0, qe_nar_1]
  refine ⟨⟨_, h0⟩, m_begins h0 hp hf hy (fun g w1 a0 a1 a2 f1 => ?_)⟩
  have e : g 33 = eSu (yE y) 0 := a2.1.1 33 (by omega)
  have c33 : (iI 33).toNatClampNeg = 33 := by decide
  have i33 : vp_in (iI 33) 7896 = True := iI_inT (by omega) (by omega) (by omega)
  simp only [qe_x, qe_v, q_get, Bool.cond_false, Bool.cond_true, Nat.reduceAdd, Nat.reduceBEq, Nat.reduceLT, Nat.reduceLeDiff, Nat.add_zero, Nat.zero_add, Nat.le_refl, true_and, and_true, List.length_cons, List.length_nil, Option.some.injEq, exists_eq_left', exists_eq_left, exists_eq', reduceCtorEq, dX8_clearAccount_0, qe_aload_0, qe_al, dX8_clearAccount_1, qe_invv, ms_X8_clearAccount_105, qe_c0, qe_c1, qe_c2, qe_c3, qe_c8, qe_c9, qe_cs, qe_cv, qe_tk, qe_tk0, qe_cat0, qe_cati, qe_catl, qe_catr, qe_catn, qe_ob, qe_cpy, qe_tl, qe_tl0, dX8_clearAccount_4, dX8_clearAccount_5, qe_get, qF_8_7, qe_gf, qe_fg, List.getElem?_cons_zero, List.getElem?_cons_succ, dX8_clearAccount_8, qe_bipush, Int.reduceLE, Int.reduceLT, Int.reduceNeg, dX8_clearAccount_10, qe_lald, qe_aj, dX8_clearAccount_11, qe_lstore_1, q_st1, q_st2, q_clr, Value.category, Nat.reduceEqDiff, reduceIte, dX8_clearAccount_12, qe_iconst, dX8_clearAccount_13, qe_istore_3, dX8_clearAccount_14, qe_iload_3, qe_il, dX8_clearAccount_15, dX8_clearAccount_17, qe_icmp_gt, q_br, q_tg, Int.reduceNatCast', Int.reduceAdd, Int.reduceToNat, dX8_clearAccount_20, dX8_clearAccount_21, dX8_clearAccount_24, dX8_clearAccount_26, dX8_clearAccount_27, qe_iadd, dX8_clearAccount_28, qe_lconst0, dX8_clearAccount_29, qe_last, qe_bj, dX8_clearAccount_30, qe_iinc, qe_ii, dX8_clearAccount_33, qe_goto, dX8_clearAccount_36, qe_lload_1, qe_ll, dX8_clearAccount_37, qe_ldc2, qe_pk, qDi_8_278, dX8_clearAccount_40, qe_land, dX8_clearAccount_41, qe_l2i, dX8_clearAccount_42, qe_iret, qe_nar_i, qe_nar_0, qe_nar_1, a0, a1, c33, i33, true_and, e]
  exact loop g a2 7 0 w1 g (by omega) a0 a1 f1 (fun j => by rw [if_neg (by omega)])
end
