/-! ===== Model: goes ===== -/
theorem trc_mem {s : Nat → QSp} : ∀ (f i j x : Nat), x ∈ trc s f i j → i ≤ x ∧ x < j := by
  intro f
  induction f with
  | zero => intro i j x h; exact absurd h (by simp [trc])
  | succ f ih =>
    intro i j x h
    change x ∈ (if j ≤ i then [] else if (s i).1 = 1 ∧ i < (s i).2.2.getD 0 ∧ (s i).2.2.getD 0 < j then i :: ((List.replicate (s i).2.1.1 (trc s f (i + 1) ((s i).2.2.getD 0) ++ [(s i).2.2.getD 0])).flatten ++ trc s f ((s i).2.2.getD 0 + 1) j) else i :: trc s f (i + 1) j) at h
    by_cases hj : j ≤ i
    · rw [if_pos hj] at h; exact absurd h (by simp)
    · rw [if_neg hj] at h
      by_cases hc : (s i).1 = 1 ∧ i < (s i).2.2.getD 0 ∧ (s i).2.2.getD 0 < j
      · rw [if_pos hc] at h
        rcases List.mem_cons.mp h with h | h
        · omega
        · rcases List.mem_append.mp h with h | h
          · obtain ⟨l, hl, hx⟩ := List.mem_flatten.mp h
            rw [(List.mem_replicate.mp hl).2] at hx
            rcases List.mem_append.mp hx with h | h
            · have := ih _ _ _ h; omega
            · have := List.mem_singleton.mp h; omega
          · have := ih _ _ _ h; omega
      · rw [if_neg hc] at h
        rcases List.mem_cons.mp h with h | h
        · omega
        · have := ih _ _ _ h; omega
theorem trT_mem {s : Nat → QSp} {i j x : Nat} (h : x ∈ trT s i j) : i ≤ x ∧ x < j := trc_mem _ _ _ _ h
theorem opsL_none {s : Nat → QSp} {i j : Nat} (h : ∀ k, i ≤ k → k < j → ¬ (s k).1 = 0) : opsL s (trT s i j) = [] := by
  unfold opsL
  rw [List.filter_eq_nil_iff]
  intro x hx
  have := trT_mem hx
  rw [beq_iff_eq]
  exact h x this.1 this.2
/-- the opened loops lie in order ahead of the place -/
def ogI (og : Nat → Nat) (d p : Nat) : Prop := (∀ i, i < d → og i < p) ∧ ∀ i j, i < j → j < d → og i < og j
section
variable {w : QWd} {M : Nat} {sz : Nat} {post : QPo} {rm wy ty ov um us un st sp bk od en : Int32} {lo0 up0 xu xd ld : Int64}
theorem m_hasWork {n p c : Nat} {s : Nat → QSp} {f4 f7 : Nat → Int32} (hw : w M = some (cMo M rm wy ty lo0 up0 ov um us un xu xd ld st sp bk od en)) (h4 : w (M + 4) = some (aInt 80 f4)) (h7 : w (M + 7) = some (aInt 80 f7)) (r4 : ∀ i, i < n → f4 i = iI ((s i).1 : Nat)) (hs : ∀ i, i < n → (s i).1 ≤ 2) (hn : n ≤ 80) (hp : p < c) (hc : c < n) (e7 : f7 p = iI (c : Nat))
    (h1 : post (some (.int (iI 1))) w) (h2 : (∀ k, p + 1 ≤ k → k < c → ¬ (s k).1 = 0) → post (some (.int (iI 0))) w) : T_X8_hasWork [.ref M, .int (iI p)] w sz post := by
  refine Ti_X8_hasWork (fun G hG => ?_)
  have fin : ∀ j : Nat, p + 1 ≤ j → j ≤ c → G 6 [some (.ref M), some (.int (iI p)), some (.int (iI 1)), some (.int (iI j))] [] w sz 0 := by
    intro j hj1 hj2
    refine hG (fun pc => pc == 6) 60 _ _ _ _ _ _ ?_
    simp only [qe_x, qe_v, q_get, Bool.cond_false, Bool.cond_true, Nat.reduceAdd, Nat.reduceBEq, Nat.reduceLT, Nat.reduceLeDiff, Nat.add_zero, Nat.zero_add, Nat.le_refl, true_and, and_true, List.length_cons, List.length_nil, Option.some.injEq, exists_eq_left', exists_eq_left, exists_eq', reduceCtorEq, dX8_hasWork_0, qe_iconst, dX8_hasWork_1, qe_istore_2, q_st1, q_st2, q_clr, Value.category, Nat.reduceEqDiff, reduceIte, dX8_hasWork_2, qe_iload_1, qe_il, dX8_hasWork_3, dX8_hasWork_4, qe_iadd, dX8_hasWork_5, qe_istore_3, dX8_hasWork_6, qe_iload_3, dX8_hasWork_7, qe_aload_0, qe_al, dX8_hasWork_8, qe_get, qF_8_29, qe_gf, qe_fg, List.getElem?_cons_zero, List.getElem?_cons_succ, dX8_hasWork_11, dX8_hasWork_12, qe_iald, qe_ai, qe_ai6, dX8_hasWork_13, qe_icmp_ge, q_br, q_tg, Int.reduceNatCast', Int.reduceAdd, Int.reduceToNat, Int.reduceLE, Int.reduceNeg, dX8_hasWork_16, qe_iload_2, dX8_hasWork_17, qe_if_ne, dX8_hasWork_20, dX8_hasWork_21, qF_8_20, dX8_hasWork_24, dX8_hasWork_25, dX8_hasWork_26, dX8_hasWork_29, dX8_hasWork_30, qe_goto, dX8_hasWork_33, dX8_hasWork_34, dX8_hasWork_35, qe_iinc, qe_ii, dX8_hasWork_38, dX8_hasWork_41, dX8_hasWork_42, qe_iret, qe_nar_i, qe_nar_0, qe_nar_1, hw, h4, h7]
    simp (disch := omega) only [iI_inN, iI_clN, true_and, e7, iI_le, iI_eq]
    refine ⟨fun _ => h1, fun _ => ⟨fun _ => h1, fun z => absurd (show ¬ (1 : Int) = 0 by omega) z⟩⟩
  have loop : ∀ (m j : Nat), j + m = c → p + 1 ≤ j → (∀ k, p + 1 ≤ k → k < j → ¬ (s k).1 = 0) → G 6 [some (.ref M), some (.int (iI p)), some (.int (iI 0)), some (.int (iI j))] [] w sz 0 := by
    intro m
    induction m with
    | zero =>
      intro j hj hj2 ha
      refine hG (fun pc => pc == 6) 60 _ _ _ _ _ _ ?_
      simp only [qe_x, qe_v, q_get, Bool.cond_false, Bool.cond_true, Nat.reduceAdd, Nat.reduceBEq, Nat.reduceLT, Nat.reduceLeDiff, Nat.add_zero, Nat.zero_add, Nat.le_refl, true_and, and_true, List.length_cons, List.length_nil, Option.some.injEq, exists_eq_left', exists_eq_left, exists_eq', reduceCtorEq, dX8_hasWork_0, qe_iconst, dX8_hasWork_1, qe_istore_2, q_st1, q_st2, q_clr, Value.category, Nat.reduceEqDiff, reduceIte, dX8_hasWork_2, qe_iload_1, qe_il, dX8_hasWork_3, dX8_hasWork_4, qe_iadd, dX8_hasWork_5, qe_istore_3, dX8_hasWork_6, qe_iload_3, dX8_hasWork_7, qe_aload_0, qe_al, dX8_hasWork_8, qe_get, qF_8_29, qe_gf, qe_fg, List.getElem?_cons_zero, List.getElem?_cons_succ, dX8_hasWork_11, dX8_hasWork_12, qe_iald, qe_ai, qe_ai6, dX8_hasWork_13, qe_icmp_ge, q_br, q_tg, Int.reduceNatCast', Int.reduceAdd, Int.reduceToNat, Int.reduceLE, Int.reduceNeg, dX8_hasWork_16, qe_iload_2, dX8_hasWork_17, qe_if_ne, dX8_hasWork_20, dX8_hasWork_21, qF_8_20, dX8_hasWork_24, dX8_hasWork_25, dX8_hasWork_26, dX8_hasWork_29, dX8_hasWork_30, qe_goto, dX8_hasWork_33, dX8_hasWork_34, dX8_hasWork_35, qe_iinc, qe_ii, dX8_hasWork_38, dX8_hasWork_41, dX8_hasWork_42, qe_iret, qe_nar_i, qe_nar_0, qe_nar_1, hw, h4, h7]
      simp (disch := omega) only [iI_inN, iI_clN, true_and, e7, iI_le]
      rw [show j = c by omega] at ha
      exact ⟨fun _ => h2 ha, fun z => absurd (show (c : Int) ≤ j by omega) z⟩
    | succ m ih =>
      intro j hj hj2 ha
      have e4 := r4 j (by omega)
      have s2 := hs j (by omega)
      refine hG (fun pc => pc == 6) 60 _ _ _ _ _ _ ?_
      simp only [qe_x, qe_v, q_get, Bool.cond_false, Bool.cond_true, Nat.reduceAdd, Nat.reduceBEq, Nat.reduceLT, Nat.reduceLeDiff, Nat.add_zero, Nat.zero_add, Nat.le_refl, true_and, and_true, List.length_cons, List.length_nil, Option.some.injEq, exists_eq_left', exists_eq_left, exists_eq', reduceCtorEq, dX8_hasWork_0, qe_iconst, dX8_hasWork_1, qe_istore_2, q_st1, q_st2, q_clr, Value.category, Nat.reduceEqDiff, reduceIte, dX8_hasWork_2, qe_iload_1, qe_il, dX8_hasWork_3, dX8_hasWork_4, qe_iadd, dX8_hasWork_5, qe_istore_3, dX8_hasWork_6, qe_iload_3, dX8_hasWork_7, qe_aload_0, qe_al, dX8_hasWork_8, qe_get, qF_8_29, qe_gf, qe_fg, List.getElem?_cons_zero, List.getElem?_cons_succ, dX8_hasWork_11, dX8_hasWork_12, qe_iald, qe_ai, qe_ai6, dX8_hasWork_13, qe_icmp_ge, q_br, q_tg, Int.reduceNatCast', Int.reduceAdd, Int.reduceToNat, Int.reduceLE, Int.reduceNeg, dX8_hasWork_16, qe_iload_2, dX8_hasWork_17, qe_if_ne, dX8_hasWork_20, dX8_hasWork_21, qF_8_20, dX8_hasWork_24, dX8_hasWork_25, dX8_hasWork_26, dX8_hasWork_29, dX8_hasWork_30, qe_goto, dX8_hasWork_33, dX8_hasWork_34, dX8_hasWork_35, qe_iinc, qe_ii, dX8_hasWork_38, dX8_hasWork_41, dX8_hasWork_42, qe_iret, qe_nar_i, qe_nar_0, qe_nar_1, hw, h4, h7]
      simp (disch := omega) only [iI_inN, iI_clN, true_and, e7, e4, iI_le, iI_eq, iI_add]
      refine ⟨fun z => absurd z (by omega), fun _ => ⟨fun z => absurd trivial z, fun _ => ⟨fun z => ?_, fun z => fin (j + 1) (by omega) (by omega)⟩⟩⟩
      refine ih (j + 1) (by omega) (by omega) (fun k k1 k2 => ?_)
      by_cases kj : k = j
      · rw [kj]; omega
      · exact ha k k1 (by omega)
  refine hG (fun pc => pc == 6) 60 _ _ _ _ _ _ ?_
  simp only [qe_x, qe_v, q_get, Bool.cond_false, Bool.cond_true, Nat.reduceAdd, Nat.reduceBEq, Nat.reduceLT, Nat.reduceLeDiff, Nat.add_zero, Nat.zero_add, Nat.le_refl, true_and, and_true, List.length_cons, List.length_nil, Option.some.injEq, exists_eq_left', exists_eq_left, exists_eq', reduceCtorEq, dX8_hasWork_0, qe_iconst, dX8_hasWork_1, qe_istore_2, q_st1, q_st2, q_clr, Value.category, Nat.reduceEqDiff, reduceIte, dX8_hasWork_2, qe_iload_1, qe_il, dX8_hasWork_3, dX8_hasWork_4, qe_iadd, dX8_hasWork_5, qe_istore_3, dX8_hasWork_6, qe_iload_3, dX8_hasWork_7, qe_aload_0, qe_al, dX8_hasWork_8, qe_get, qF_8_29, qe_gf, qe_fg, List.getElem?_cons_zero, List.getElem?_cons_succ, dX8_hasWork_11, dX8_hasWork_12, qe_iald, qe_ai, qe_ai6, dX8_hasWork_13, qe_icmp_ge, q_br, q_tg, Int.reduceNatCast', Int.reduceAdd, Int.reduceToNat, Int.reduceLE, Int.reduceNeg, dX8_hasWork_16, qe_iload_2, dX8_hasWork_17, qe_if_ne, dX8_hasWork_20, dX8_hasWork_21, qF_8_20, dX8_hasWork_24, dX8_hasWork_25, dX8_hasWork_26, dX8_hasWork_29, dX8_hasWork_30, qe_goto, dX8_hasWork_33, dX8_hasWork_34, dX8_hasWork_35, qe_iinc, qe_ii, dX8_hasWork_38, dX8_hasWork_41, dX8_hasWork_42, qe_iret, qe_nar_i, qe_nar_0, qe_nar_1, iI_add]
  exact loop (c - (p + 1)) (p + 1) (by omega) (by omega) (fun k k1 k2 => by omega)
end
