/-! ===== Setting ===== -/
theorem iI_clN {r : Nat} (h : r < 2147483648) : (iI (r : Int)).toNatClampNeg = r := by rw [iI_cl (by omega) (by omega)]; rfl
theorem iI_inN {r n : Nat} (h : r < n) (hn : n < 2147483648) : vp_in (iI (r : Int)) n = True := eq_true (iI_in (by omega) (by omega) hn)
theorem qe_rf {a : Nat} : va_rf (some a) = .ref a := rfl
theorem iI_and3 (a : Int) : iI a &&& iI 3 = iI (a % 4) := iI_and a 2 (by decide)
/-- formats, formats of the registers, values, mode, bits, seed, next number -/
abbrev QSt : Type := (Nat → Nat × Nat × Nat) × (Nat → Nat) × (Nat → Int) × Nat × Nat × Int32 × Int32
abbrev sFm (S : QSt) : Nat → Nat × Nat × Nat := S.1
abbrev sFn (S : QSt) : Nat → Nat := S.2.1
abbrev sVa (S : QSt) : Nat → Int := S.2.2.1
abbrev sMo (S : QSt) : Nat := S.2.2.2.1
abbrev sBi (S : QSt) : Nat := S.2.2.2.2.1
abbrev sSe (S : QSt) : Int32 := S.2.2.2.2.2.1
abbrev sNx (S : QSt) : Int32 := S.2.2.2.2.2.2
def cFmt3 (f : Nat × Nat × Nat) : QCl := cFmt f.1 f.2.1 f.2.2
def Fok3 (f : Nat × Nat × Nat) : Prop := Fok f.1 f.2.1 f.2.2
abbrev aRef (n k : Nat) (f : Nat → Option Nat) : QCl := .inl (k, n, .inr (.inr (.inr (.inr f))))
abbrev aInt (n : Nat) (f : Nat → Int32) : QCl := .inl (0, n, .inl f)
abbrev aLng (n : Nat) (f : Nat → Int64) : QCl := .inl (1, n, .inr (.inl f))
abbrev cSet (a mo bi : Nat) (se nx : Int32) : QCl := .inr (6, [.ref (a + 1), .ref (a + 2), .ref (a + 3), .int (iI mo), .int (iI bi), .int se, .int nx])
def sAt (w : QWd) (a : Nat) (S : QSt) : Prop :=
  w a = some (cSet a (sMo S) (sBi S) (sSe S) (sNx S)) ∧
  (∃ f, w (a + 1) = some (aRef 4 2 f) ∧ ∀ i, i < 4 → f i = some (a + 4 + i)) ∧
  (∃ f, w (a + 2) = some (aInt 8 f) ∧ ∀ i, i < 8 → f i = iI (sFn S i)) ∧
  (∃ f, w (a + 3) = some (aInt 8 f) ∧ ∀ i, i < 8 → f i = iI (sVa S i)) ∧
  ∀ i, i < 4 → w (a + 4 + i) = some (cFmt3 (sFm S i))
def sOk (S : QSt) : Prop := (∀ i, i < 4 → Fok3 (sFm S i)) ∧ (∀ i, i < 8 → sFn S i < 4) ∧ (∀ i, i < 8 → -1048576 ≤ sVa S i ∧ sVa S i ≤ 1048576) ∧ sMo S ≤ 4 ∧ 1 ≤ sBi S ∧ sBi S ≤ 8
/-- outside of n cells from a on, the same -/
def fr (w w' : QWd) (a n : Nat) : Prop := ∀ q, (q < a ∨ a + n ≤ q) → w' q = w q
theorem sAt.fr {w w' : QWd} {a b n : Nat} {S : QSt} (h : sAt w a S) (hf : fr w w' b n) (hd : a + 8 ≤ b ∨ b + n ≤ a) : sAt w' a S := by
  obtain ⟨h1, ⟨f1, h2, h2'⟩, ⟨f2, h3, h3'⟩, ⟨f3, h4, h4'⟩, h5⟩ := h
  refine ⟨by rw [hf _ (by omega)]; exact h1, ⟨f1, by rw [hf _ (by omega)]; exact h2, h2'⟩, ⟨f2, by rw [hf _ (by omega)]; exact h3, h3'⟩, ⟨f3, by rw [hf _ (by omega)]; exact h4, h4'⟩, fun i hi => by rw [hf _ (by omega)]; exact h5 i hi⟩
theorem fr.set {w w' : QWd} {a n b : Nat} {x : QCl} (h : fr w w' a n) (h1 : a ≤ b) (h2 : b < a + n) : fr w (q_set w' b x) a n := fun q hq => by rw [q_set_n _ _ (by omega)]; exact h q hq
theorem fr.rf {w : QWd} {a n : Nat} : fr w w a n := fun _ _ => rfl
theorem fr.tr {w w1 w2 : QWd} {a n : Nat} (h : fr w w1 a n) (h' : fr w1 w2 a n) : fr w w2 a n := fun q hq => (h' q hq).trans (h q hq)
theorem fr.up {w w' : QWd} {a n b m : Nat} (h : fr w w' a n) (h1 : b ≤ a) (h2 : a + n ≤ b + m) : fr w w' b m := fun q hq => h q (by omega)
theorem t_formatAt {a r : Nat} {w : QWd} {sz : Nat} {post : QPo} {S : QSt} (hS : sAt w a S) (hO : sOk S) (hr : r < 8) (h : post (some (.ref (a + 4 + sFn S r))) w) : T_X6_formatAt [.ref a, .int (iI r)] w sz post := by
  obtain ⟨h1, ⟨f1, h2, h2'⟩, ⟨f2, h3, h3'⟩, ⟨f3, h4, h4'⟩, h5⟩ := hS
  have hk := hO.2.1 r hr
  refine Ti_X6_formatAt (fun G hG => hG (fun _ => false) 80 _ _ _ _ _ _ ?_)
  simp only [qe_x, qe_v, q_get, Bool.cond_false, Bool.cond_true, Nat.reduceAdd, Nat.reduceBEq, Nat.reduceLT, Nat.reduceLeDiff, Nat.add_zero, Nat.zero_add, Nat.le_refl, true_and, and_true, List.length_cons, List.length_nil, Option.some.injEq, exists_eq_left', exists_eq_left, exists_eq', reduceCtorEq, dX6_formatAt_0, qe_aload_0, qe_al, dX6_formatAt_1, qe_get, qF_6_11, qe_gf, qe_fg, List.getElem?_cons_zero, List.getElem?_cons_succ, dX6_formatAt_4, dX6_formatAt_5, qF_6_17, dX6_formatAt_8, qe_iload_1, qe_il, dX6_formatAt_9, qe_iald, qe_ai, qe_ai6, dX6_formatAt_10, qe_iconst, dX6_formatAt_11, qe_iand, dX6_formatAt_12, qe_aald, qe_aq, dX6_formatAt_13, qe_aret, FieldType.object.injEq, h1, h2, h3]
  simp (disch := omega) only [iI_inN, iI_clN, h3' r hr, iI_and3]
  rw [show ((sFn S r : Int) % 4) = ((sFn S r : Nat) : Int) by omega]
  simp (disch := omega) only [iI_inN, iI_clN, h2' _ hk, qe_rf]
  simp only [qe_x, qe_v, q_get, Bool.cond_false, Bool.cond_true, Nat.reduceAdd, Nat.reduceBEq, Nat.reduceLT, Nat.reduceLeDiff, Nat.add_zero, Nat.zero_add, Nat.le_refl, true_and, and_true, List.length_cons, List.length_nil, Option.some.injEq, exists_eq_left', exists_eq_left, exists_eq', reduceCtorEq, dX6_formatAt_0, qe_aload_0, qe_al, dX6_formatAt_1, qe_get, qF_6_11, qe_gf, qe_fg, List.getElem?_cons_zero, List.getElem?_cons_succ, dX6_formatAt_4, dX6_formatAt_5, qF_6_17, dX6_formatAt_8, qe_iload_1, qe_il, dX6_formatAt_9, qe_iald, qe_ai, qe_ai6, dX6_formatAt_10, qe_iconst, dX6_formatAt_11, qe_iand, dX6_formatAt_12, qe_aald, qe_aq, dX6_formatAt_13, qe_aret, FieldType.object.injEq]
  exact h
/-- the values of the registers with the format f are emptied -/
def vEmp (fn : Nat → Nat) (f n : Nat) (v : Nat → Int) : Nat → Int := fun i => if i < n ∧ fn i = f then 0 else v i
theorem t_empty {a f : Nat} {w : QWd} {sz : Nat} {post : QPo} {S : QSt} (hS : sAt w a S) (hO : sOk S) (hf : f < 4) (h : ∀ w', sAt w' a (sFm S, sFn S, vEmp (sFn S) f 8 (sVa S), S.2.2.2) → fr w w' (a + 3) 1 → post none w') : T_X6_emptyRegistersOf [.ref a, .int (iI f)] w sz post := by
  obtain ⟨h1, ⟨f1, h2, h2'⟩, ⟨f2, h3, h3'⟩, ⟨f3, h4, h4'⟩, h5⟩ := hS
  refine Ti_X6_emptyRegistersOf (fun G hG => ?_)
  have loop : ∀ (n r : Nat) (g : Nat → Int32), r + n = 8 → (∀ i, i < 8 → g i = iI (vEmp (sFn S) f r (sVa S) i)) → G 2 [some (.ref a), some (.int (iI f)), some (.int (iI r))] [] (q_set w (a + 3) (aInt 8 g)) sz 0 := by
    intro n
    induction n with
    | zero =>
      intro r g hr hg
      refine hG (fun pc => pc == 2) 20 _ _ _ _ _ _ ?_
      simp only [qe_x, qe_v, q_get, Bool.cond_false, Bool.cond_true, Nat.reduceAdd, Nat.reduceBEq, Nat.reduceLT, Nat.reduceLeDiff, Nat.add_zero, Nat.zero_add, Nat.le_refl, true_and, and_true, List.length_cons, List.length_nil, Option.some.injEq, exists_eq_left', exists_eq_left, exists_eq', reduceCtorEq, dX6_emptyRegistersOf_0, qe_iconst, dX6_emptyRegistersOf_1, qe_istore_2, q_st1, q_st2, q_clr, Value.category, Nat.reduceEqDiff, reduceIte, dX6_emptyRegistersOf_2, qe_iload_2, qe_il, dX6_emptyRegistersOf_3, qe_bipush, Int.reduceLE, Int.reduceLT, Int.reduceNeg, dX6_emptyRegistersOf_5, qe_icmp_ge, q_br, q_tg, Int.reduceNatCast', Int.reduceAdd, Int.reduceToNat, dX6_emptyRegistersOf_8, qe_aload_0, qe_al, dX6_emptyRegistersOf_9, qe_get, qF_6_17, qe_gf, qe_fg, List.getElem?_cons_zero, List.getElem?_cons_succ, dX6_emptyRegistersOf_12, dX6_emptyRegistersOf_13, qe_iald, qe_ai, qe_ai6, dX6_emptyRegistersOf_14, qe_iload_1, dX6_emptyRegistersOf_15, qe_icmp_ne, dX6_emptyRegistersOf_18, dX6_emptyRegistersOf_19, qF_6_21, dX6_emptyRegistersOf_22, dX6_emptyRegistersOf_23, dX6_emptyRegistersOf_24, qe_iast, qe_bi, dX6_emptyRegistersOf_25, qe_iinc, qe_ii, dX6_emptyRegistersOf_28, qe_goto, dX6_emptyRegistersOf_31, qe_vret]
      simp (disch := omega) only [iI_le]
      refine ⟨fun _ => h _ ⟨?_, ⟨f1, ?_, h2'⟩, ⟨f2, ?_, h3'⟩, ⟨g, q_set_s _ _ _, ?_⟩, fun i hi => ?_⟩ (fr.rf.set (by omega) (by omega)), fun q => absurd (show (8 : Int) ≤ r by omega) q⟩
      · rw [q_set_n _ _ (by omega)]; exact h1
      · rw [q_set_n _ _ (by omega)]; exact h2
      · rw [q_set_n _ _ (by omega)]; exact h3
      · intro i hi
        rw [hg i hi, show r = 8 by omega]
      · rw [q_set_n _ _ (by omega)]; exact h5 i hi
    | succ n ih =>
      intro r g hr hg
      have e0 : ∀ x, q_set w (a + 3) x a = w a := fun x => q_set_n _ _ (by omega)
      have e2 : ∀ x, q_set w (a + 3) x (a + 2) = w (a + 2) := fun x => q_set_n _ _ (by omega)
      have hk := hO.2.1 r (by omega)
      refine hG (fun pc => pc == 2) 20 _ _ _ _ _ _ ?_
      simp only [qe_x, qe_v, q_get, Bool.cond_false, Bool.cond_true, Nat.reduceAdd, Nat.reduceBEq, Nat.reduceLT, Nat.reduceLeDiff, Nat.add_zero, Nat.zero_add, Nat.le_refl, true_and, and_true, List.length_cons, List.length_nil, Option.some.injEq, exists_eq_left', exists_eq_left, exists_eq', reduceCtorEq, dX6_emptyRegistersOf_0, qe_iconst, dX6_emptyRegistersOf_1, qe_istore_2, q_st1, q_st2, q_clr, Value.category, Nat.reduceEqDiff, reduceIte, dX6_emptyRegistersOf_2, qe_iload_2, qe_il, dX6_emptyRegistersOf_3, qe_bipush, Int.reduceLE, Int.reduceLT, Int.reduceNeg, dX6_emptyRegistersOf_5, qe_icmp_ge, q_br, q_tg, Int.reduceNatCast', Int.reduceAdd, Int.reduceToNat, dX6_emptyRegistersOf_8, qe_aload_0, qe_al, dX6_emptyRegistersOf_9, qe_get, qF_6_17, qe_gf, qe_fg, List.getElem?_cons_zero, List.getElem?_cons_succ, dX6_emptyRegistersOf_12, dX6_emptyRegistersOf_13, qe_iald, qe_ai, qe_ai6, dX6_emptyRegistersOf_14, qe_iload_1, dX6_emptyRegistersOf_15, qe_icmp_ne, dX6_emptyRegistersOf_18, dX6_emptyRegistersOf_19, qF_6_21, dX6_emptyRegistersOf_22, dX6_emptyRegistersOf_23, dX6_emptyRegistersOf_24, qe_iast, qe_bi, dX6_emptyRegistersOf_25, qe_iinc, qe_ii, dX6_emptyRegistersOf_28, qe_goto, dX6_emptyRegistersOf_31, qe_vret, e0, e2, h1, h3, q_set_s, q_set_ss]
      simp (disch := omega) only [iI_le, iI_inN, iI_clN, h3' r (by omega), iI_eq, iI_add, true_and]
      refine ⟨fun q => absurd q (by omega), fun _ => ⟨fun c => ?_, fun c => ?_⟩⟩
      · refine ih (r + 1) g (by omega) (fun i hi => ?_)
        rw [hg i hi]
        unfold vEmp
        by_cases hi2 : i = r
        · subst hi2
          rw [if_neg (by omega), if_neg (by omega)]
        · by_cases h3 : i < r ∧ sFn S i = f
          · rw [if_pos h3, if_pos (by omega)]
          · rw [if_neg h3, if_neg (by omega)]
      · refine ih (r + 1) _ (by omega) (fun i hi => ?_)
        unfold upd
        by_cases hi2 : i = r
        · subst hi2
          rw [if_pos rfl]
          unfold vEmp
          rw [if_pos (by omega)]
        · rw [if_neg hi2, hg i hi]
          unfold vEmp
          by_cases h3 : i < r ∧ sFn S i = f
          · rw [if_pos h3, if_pos (by omega)]
          · rw [if_neg h3, if_neg (by omega)]
  refine hG (fun pc => pc == 2) 20 _ _ _ _ _ _ ?_
  simp only [qe_x, qe_v, q_get, Bool.cond_false, Bool.cond_true, Nat.reduceAdd, Nat.reduceBEq, Nat.reduceLT, Nat.reduceLeDiff, Nat.add_zero, Nat.zero_add, Nat.le_refl, true_and, and_true, List.length_cons, List.length_nil, Option.some.injEq, exists_eq_left', exists_eq_left, exists_eq', reduceCtorEq, dX6_emptyRegistersOf_0, qe_iconst, dX6_emptyRegistersOf_1, qe_istore_2, q_st1, q_st2, q_clr, Value.category, Nat.reduceEqDiff, reduceIte, dX6_emptyRegistersOf_2, qe_iload_2, qe_il, dX6_emptyRegistersOf_3, qe_bipush, Int.reduceLE, Int.reduceLT, Int.reduceNeg, dX6_emptyRegistersOf_5, qe_icmp_ge, q_br, q_tg, Int.reduceNatCast', Int.reduceAdd, Int.reduceToNat, dX6_emptyRegistersOf_8, qe_aload_0, qe_al, dX6_emptyRegistersOf_9, qe_get, qF_6_17, qe_gf, qe_fg, List.getElem?_cons_zero, List.getElem?_cons_succ, dX6_emptyRegistersOf_12, dX6_emptyRegistersOf_13, qe_iald, qe_ai, qe_ai6, dX6_emptyRegistersOf_14, qe_iload_1, dX6_emptyRegistersOf_15, qe_icmp_ne, dX6_emptyRegistersOf_18, dX6_emptyRegistersOf_19, qF_6_21, dX6_emptyRegistersOf_22, dX6_emptyRegistersOf_23, dX6_emptyRegistersOf_24, qe_iast, qe_bi, dX6_emptyRegistersOf_25, qe_iinc, qe_ii, dX6_emptyRegistersOf_28, qe_goto, dX6_emptyRegistersOf_31, qe_vret]
  have hw0 : q_set w (a + 3) (aInt 8 f3) = w := by
    funext q
    by_cases hq : q = a + 3
    · subst hq; rw [q_set_s, h4]
    · rw [q_set_n _ _ hq]
  rw [← hw0]
  exact loop 8 0 f3 rfl (fun i hi => by rw [h4' i hi]; unfold vEmp; rw [if_neg (by omega)])
theorem t_canCarry {a k t x y : Nat} {w : QWd} {sz : Nat} {post : QPo} {S : QSt} (hS : sAt w a S) (hO : sOk S) (hc : Cok k t x y) (h : post (some (.int (iI (bI (decide (¬ (k = 5 ∧ sVa S y = 0))))))) w) : T_X6_canCarryOut [.ref a, .int (iI (oco k t x y))] w sz post := by
  obtain ⟨h1, ⟨f1, h2, h2'⟩, ⟨f2, h3, h3'⟩, ⟨f3, h4, h4'⟩, h5⟩ := hS
  have hy : y < 8 := by obtain ⟨q1, q2, q3, q4⟩ := hc; omega
  have hk : k ≤ 5 := hc.1
  have hv := hO.2.2.1 y hy
  refine Ti_X6_canCarryOut (fun G hG => hG (fun _ => false) 80 _ _ _ _ _ _ ?_)
  simp only [qe_x, qe_v, q_get, Bool.cond_false, Bool.cond_true, Nat.reduceAdd, Nat.reduceBEq, Nat.reduceLT, Nat.reduceLeDiff, Nat.add_zero, Nat.zero_add, Nat.le_refl, true_and, and_true, List.length_cons, List.length_nil, Option.some.injEq, exists_eq_left', exists_eq_left, exists_eq', reduceCtorEq, dX6_canCarryOut_0, qe_iload_1, qe_il, dX6_canCarryOut_1, qe_invs, ms_X6_canCarryOut_57, qe_c0, qe_c1, qe_c2, qe_c3, qe_c8, qe_c9, qe_cs, qe_cv, qe_tk, qe_tk0, qe_cat0, qe_cati, qe_catl, qe_catr, qe_catn, qe_ob, qe_cpy, qe_tl, qe_tl0, dX6_canCarryOut_4, qe_iconst, dX6_canCarryOut_5, qe_icmp_ne, q_br, q_tg, Int.reduceNatCast', Int.reduceAdd, Int.reduceToNat, Int.reduceLE, Int.reduceNeg, dX6_canCarryOut_8, qe_aload_0, qe_al, dX6_canCarryOut_9, qe_get, qF_6_21, qe_gf, qe_fg, List.getElem?_cons_zero, List.getElem?_cons_succ, dX6_canCarryOut_12, dX6_canCarryOut_13, ms_X6_canCarryOut_63, dX6_canCarryOut_16, qe_iald, qe_ai, qe_ai6, dX6_canCarryOut_17, qe_if_eq, dX6_canCarryOut_20, dX6_canCarryOut_21, qe_goto, dX6_canCarryOut_24, dX6_canCarryOut_25, qe_iret, qe_nar_i, qe_nar_0, qe_nar_1]
  refine t_kindOf hc ?_
  simp only [qe_x, qe_v, q_get, Bool.cond_false, Bool.cond_true, Nat.reduceAdd, Nat.reduceBEq, Nat.reduceLT, Nat.reduceLeDiff, Nat.add_zero, Nat.zero_add, Nat.le_refl, true_and, and_true, List.length_cons, List.length_nil, Option.some.injEq, exists_eq_left', exists_eq_left, exists_eq', reduceCtorEq, dX6_canCarryOut_0, qe_iload_1, qe_il, dX6_canCarryOut_1, qe_invs, ms_X6_canCarryOut_57, qe_c0, qe_c1, qe_c2, qe_c3, qe_c8, qe_c9, qe_cs, qe_cv, qe_tk, qe_tk0, qe_cat0, qe_cati, qe_catl, qe_catr, qe_catn, qe_ob, qe_cpy, qe_tl, qe_tl0, dX6_canCarryOut_4, qe_iconst, dX6_canCarryOut_5, qe_icmp_ne, q_br, q_tg, Int.reduceNatCast', Int.reduceAdd, Int.reduceToNat, Int.reduceLE, Int.reduceNeg, dX6_canCarryOut_8, qe_aload_0, qe_al, dX6_canCarryOut_9, qe_get, qF_6_21, qe_gf, qe_fg, List.getElem?_cons_zero, List.getElem?_cons_succ, dX6_canCarryOut_12, dX6_canCarryOut_13, ms_X6_canCarryOut_63, dX6_canCarryOut_16, qe_iald, qe_ai, qe_ai6, dX6_canCarryOut_17, qe_if_eq, dX6_canCarryOut_20, dX6_canCarryOut_21, qe_goto, dX6_canCarryOut_24, dX6_canCarryOut_25, qe_iret, qe_nar_i, qe_nar_0, qe_nar_1, h1]
  simp (disch := omega) only [iI_eq]
  refine ⟨fun c => ?_, fun c => ?_⟩
  · rw [decide_eq_true (by omega)] at h
    exact h
  · refine t_secondOf hc ?_
    simp only [qe_x, qe_v, q_get, Bool.cond_false, Bool.cond_true, Nat.reduceAdd, Nat.reduceBEq, Nat.reduceLT, Nat.reduceLeDiff, Nat.add_zero, Nat.zero_add, Nat.le_refl, true_and, and_true, List.length_cons, List.length_nil, Option.some.injEq, exists_eq_left', exists_eq_left, exists_eq', reduceCtorEq, dX6_canCarryOut_0, qe_iload_1, qe_il, dX6_canCarryOut_1, qe_invs, ms_X6_canCarryOut_57, qe_c0, qe_c1, qe_c2, qe_c3, qe_c8, qe_c9, qe_cs, qe_cv, qe_tk, qe_tk0, qe_cat0, qe_cati, qe_catl, qe_catr, qe_catn, qe_ob, qe_cpy, qe_tl, qe_tl0, dX6_canCarryOut_4, qe_iconst, dX6_canCarryOut_5, qe_icmp_ne, q_br, q_tg, Int.reduceNatCast', Int.reduceAdd, Int.reduceToNat, Int.reduceLE, Int.reduceNeg, dX6_canCarryOut_8, qe_aload_0, qe_al, dX6_canCarryOut_9, qe_get, qF_6_21, qe_gf, qe_fg, List.getElem?_cons_zero, List.getElem?_cons_succ, dX6_canCarryOut_12, dX6_canCarryOut_13, ms_X6_canCarryOut_63, dX6_canCarryOut_16, qe_iald, qe_ai, qe_ai6, dX6_canCarryOut_17, qe_if_eq, dX6_canCarryOut_20, dX6_canCarryOut_21, qe_goto, dX6_canCarryOut_24, dX6_canCarryOut_25, qe_iret, qe_nar_i, qe_nar_0, qe_nar_1, h4]
    simp (disch := omega) only [iI_inN, iI_clN, h4' y hy, iI_eq, true_and]
    repeat' (first | refine And.intro ?_ ?_ | intro _)
    all_goals first
      | (rw [decide_eq_true (by omega)] at h; exact h)
      | (rw [decide_eq_false (by omega)] at h; exact h)
