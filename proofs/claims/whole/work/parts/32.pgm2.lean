/-! ===== Program: reading ===== -/
theorem up_s {f : Nat → Int32} {k : Nat} {x : Int32} : upd f k x k = x := if_pos rfl
theorem up_n {f : Nat → Int32} {k j : Nat} {x : Int32} (h : j ≠ k) : upd f k x j = f j := if_neg h
/-- a step: sort; kind or count, target, first, second; the other parenthesis -/
abbrev QSp : Type := Nat × (Nat × Nat × Nat × Nat) × Option Nat
abbrev QPg : Type := Nat × (Nat → QSp)
/-- program; depth and opened; wanted, count, kind, target, first -/
abbrev QPs : Type := QPg × (Nat × (Nat → Nat)) × Nat × Nat × Nat × Nat × Nat
def sArg (s : QSp) : Int := if s.1 = 0 then oco s.2.1.1 s.2.1.2.1 s.2.1.2.2.1 s.2.1.2.2.2 else (s.2.1.1 : Int)
def pAdd (pg : QPg) (s : QSp) : QPg := (pg.1 + 1, fun i => if i = pg.1 then s else pg.2 i)
def pPar (pg : QPg) (o j : Nat) : QPg := (pg.1, fun i => if i = o then ((pg.2 i).1, (pg.2 i).2.1, some j) else pg.2 i)
def pCls (pg : QPg) (o : Nat) : QPg := pPar (pAdd pg (2, (0, 0, 0, 0), some o)) o pg.1
abbrev isRg (c : Nat) : Prop := 48 ≤ c ∧ c < 56
abbrev isDg (c : Nat) : Prop := 48 ≤ c ∧ c < 58
def pOpn (pg : QPg) (dp : Nat) (op : Nat → Nat) (ct kd tg fi : Nat) : QPs := (pAdd pg (1, (ct, 0, 0, 0), none), (dp + 1, fun i => if i = dp then pg.1 else op i), 0, ct, kd, tg, fi)
def pTake (q : QPs) (c : Nat) : Option QPs :=
  match q with
  | (pg, (dp, op), wn, ct, kd, tg, fi) =>
    if c = 32 then (if wn = 8 then none else some (pg, (dp, op), if wn = 9 then 10 else wn, ct, kd, tg, fi))
    else if wn = 0 then
      (if isRg c then some (pg, (dp, op), 1, ct, kd, c - 48, fi)
      else if c = 35 then some (pg, (dp, op), 8, ct, kd, tg, fi)
      else if c = 41 ∧ 1 ≤ dp then some (pCls pg (op (dp - 1)), (dp - 1, op), 0, ct, kd, tg, fi)
      else none)
    else if wn = 1 then (if c = 61 then some (pg, (dp, op), 2, ct, kd, tg, fi) else none)
    else if wn = 2 then (if c = 43 then some (pg, (dp, op), 6, ct, kd, tg, fi) else if isRg c then some (pg, (dp, op), 3, ct, kd, tg, c - 48) else none)
    else if wn = 3 then
      (if c = 59 then some (pAdd pg (0, (0, tg, fi, fi), none), (dp, op), 0, ct, kd, tg, fi)
      else if c = 43 then some (pg, (dp, op), 4, ct, 1, tg, fi)
      else if c = 45 then some (pg, (dp, op), 4, ct, 2, tg, fi)
      else if c = 42 then some (pg, (dp, op), 4, ct, 3, tg, fi)
      else if c = 47 then some (pg, (dp, op), 4, ct, 5, tg, fi)
      else none)
    else if wn = 4 then (if isRg c then some (pAdd pg (0, (kd, tg, fi, c - 48), none), (dp, op), 5, ct, kd, tg, fi) else none)
    else if wn = 5 then (if c = 59 then some (pg, (dp, op), 0, ct, kd, tg, fi) else none)
    else if wn = 6 then (if isRg c then some (pg, (dp, op), 7, ct, kd, tg, c - 48) else none)
    else if wn = 7 then (if c = 42 then some (pg, (dp, op), 4, ct, 4, tg, fi) else none)
    else if wn = 8 then (if isDg c then some (pg, (dp, op), 9, c - 48, kd, tg, fi) else none)
    else if wn = 9 ∧ isDg c then some (pg, (dp, op), 10, 10 * ct + (c - 48), kd, tg, fi)
    else if c = 40 ∧ dp < 3 then some (pOpn pg dp op ct kd tg fi)
    else none
/-- a program object at P with the text tx of length L -/
def gAt (w : QWd) (P L : Nat) (tx : Nat → Nat) (q : QPs) : Prop :=
  w P = some (cPg P L q.1.1 q.2.1.1 q.2.2.1 q.2.2.2.1 q.2.2.2.2.1 q.2.2.2.2.2.1 q.2.2.2.2.2.2) ∧
  (∃ f, w (P + 1) = some (aInt 80 f) ∧ ∀ i, i < q.1.1 → f i = iI (q.1.2 i).1) ∧
  (∃ f, w (P + 2) = some (aInt 80 f) ∧ ∀ i, i < q.1.1 → f i = iI (sArg (q.1.2 i))) ∧
  (∃ f, w (P + 3) = some (aInt 80 f) ∧ ∀ i, i < q.1.1 → ∀ j, (q.1.2 i).2.2 = some j → f i = iI (j : Nat)) ∧
  (∃ f, w (P + 4) = some (aInt 80 f) ∧ ∀ i, i < L → f i = iI (tx i)) ∧
  (∃ f, w (P + 5) = some (aInt 3 f) ∧ ∀ i, i < q.2.1.1 → f i = iI (q.2.1.2 i))
theorem gAt.fr {w w' : QWd} {P L b n : Nat} {tx : Nat → Nat} {q : QPs} (h : gAt w P L tx q) (hf : fr w w' b n) (hd : P + 6 ≤ b ∨ b + n ≤ P) : gAt w' P L tx q := by
  obtain ⟨h0, ⟨f1, h1, k1⟩, ⟨f2, h2, k2⟩, ⟨f3, h3, k3⟩, ⟨f4, h4, k4⟩, ⟨f5, h5, k5⟩⟩ := h
  exact ⟨by rw [hf _ (by omega)]; exact h0, ⟨f1, by rw [hf _ (by omega)]; exact h1, k1⟩, ⟨f2, by rw [hf _ (by omega)]; exact h2, k2⟩, ⟨f3, by rw [hf _ (by omega)]; exact h3, k3⟩, ⟨f4, by rw [hf _ (by omega)]; exact h4, k4⟩, ⟨f5, by rw [hf _ (by omega)]; exact h5, k5⟩⟩
/-- the object cell alone changes -/
theorem gAt.cell {w : QWd} {P L : Nat} {tx : Nat → Nat} {pg : QPg} {dp : Nat} {op : Nat → Nat} {wn ct kd tg fi : Nat} (wn' ct' kd' tg' fi' : Nat) (h : gAt w P L tx (pg, (dp, op), wn, ct, kd, tg, fi)) : gAt (q_set w P (cPg P L pg.1 dp wn' ct' kd' tg' fi')) P L tx (pg, (dp, op), wn', ct', kd', tg', fi') := by
  obtain ⟨h0, ⟨f1, h1, k1⟩, ⟨f2, h2, k2⟩, ⟨f3, h3, k3⟩, ⟨f4, h4, k4⟩, ⟨f5, h5, k5⟩⟩ := h
  exact ⟨q_set_s _ _ _, ⟨f1, by rw [q_set_n _ _ (by omega)]; exact h1, k1⟩, ⟨f2, by rw [q_set_n _ _ (by omega)]; exact h2, k2⟩, ⟨f3, by rw [q_set_n _ _ (by omega)]; exact h3, k3⟩, ⟨f4, by rw [q_set_n _ _ (by omega)]; exact h4, k4⟩, ⟨f5, by rw [q_set_n _ _ (by omega)]; exact h5, k5⟩⟩
theorem fr.cell {w : QWd} {P n : Nat} {X : QCl} (hn : 0 < n) : fr w (q_set w P X) P n := fr.rf.set (by omega) (by omega)
theorem t_addStepG {P L : Nat} {tx : Nat → Nat} {pg : QPg} {dp : Nat} {op : Nat → Nat} {wn ct kd tg fi : Nat} {w : QWd} {sz : Nat} {post : QPo} {st ag : Nat} (s : QSp) (hg : gAt w P L tx (pg, (dp, op), wn, ct, kd, tg, fi)) (hs : pg.1 < 80) (e1 : s.1 = st) (e2 : sArg s = (ag : Int)) (e3 : s.2.2 = none)
    (h : ∀ w', gAt w' P L tx (pAdd pg s, (dp, op), wn, ct, kd, tg, fi) → fr w w' P 6 → post (some (.int (iI 1))) w') : T_X4_addStep [.ref P, .int (iI st), .int (iI ag)] w sz post := by
  obtain ⟨h0, ⟨f1, h1, k1⟩, ⟨f2, h2, k2⟩, ⟨f3, h3, k3⟩, ⟨f4, h4, k4⟩, ⟨f5, h5, k5⟩⟩ := hg
  refine t_addStep h0 hs h1 h2 (h _ ⟨q_set_s _ _ _, ⟨upd f1 pg.1 (iI st), ?_, fun i hi => ?_⟩, ⟨upd f2 pg.1 (iI ag), ?_, fun i hi => ?_⟩, ⟨f3, ?_, fun i hi j hj => ?_⟩, ⟨f4, ?_, k4⟩, ⟨f5, ?_, k5⟩⟩ (((fr.rf.set (by omega) (by omega)).set (by omega) (by omega)).set (by omega) (by omega)))
  · rw [q_set_n _ _ (by omega), q_set_n _ _ (by omega), q_set_s]
  · show upd f1 pg.1 (iI st) i = iI ((if i = pg.1 then s else pg.2 i).1 : Nat)
    by_cases q : i = pg.1
    · rw [if_pos q, q, up_s, e1]
    · rw [if_neg q, up_n q]; exact k1 i (by change i < pg.1 + 1 at hi; change i < pg.1; omega)
  · rw [q_set_n _ _ (by omega), q_set_s]
  · show upd f2 pg.1 (iI ag) i = iI (sArg (if i = pg.1 then s else pg.2 i))
    by_cases q : i = pg.1
    · rw [if_pos q, q, up_s, e2]
    · rw [if_neg q, up_n q]; exact k2 i (by change i < pg.1 + 1 at hi; change i < pg.1; omega)
  · rw [q_set_n _ _ (by omega), q_set_n _ _ (by omega), q_set_n _ _ (by omega)]; exact h3
  · change (if i = pg.1 then s else pg.2 i).2.2 = some j at hj
    by_cases q : i = pg.1
    · rw [if_pos q, e3] at hj; exact absurd hj (by simp)
    · rw [if_neg q] at hj; exact k3 i (by change i < pg.1 + 1 at hi; change i < pg.1; omega) j hj
  · rw [q_set_n _ _ (by omega), q_set_n _ _ (by omega), q_set_n _ _ (by omega)]; exact h4
  · rw [q_set_n _ _ (by omega), q_set_n _ _ (by omega), q_set_n _ _ (by omega)]; exact h5
theorem t_addOper {P L : Nat} {tx : Nat → Nat} {pg : QPg} {dp : Nat} {op : Nat → Nat} {wn ct kd tg fi : Nat} {w : QWd} {sz : Nat} {post : QPo} {k b : Nat} (hg : gAt w P L tx (pg, (dp, op), wn, ct, kd, tg, fi)) (hs : pg.1 < 80) (hc : Cok k tg fi b)
    (h : ∀ w', gAt w' P L tx (pAdd pg (0, (k, tg, fi, b), none), (dp, op), wn, ct, kd, tg, fi) → fr w w' P 6 → post (some (.int (iI 1))) w') : T_X4_addOperation [.ref P, .int (iI k), .int (iI b)] w sz post := by
  have h0 := hg.1
  refine Ti_X4_addOperation (fun G hG => hG (fun _ => false) 20 _ _ _ _ _ _ ?_)
  simp only [qe_x, qe_v, q_get, Bool.cond_false, Bool.cond_true, Nat.reduceAdd, Nat.reduceBEq, Nat.reduceLT, Nat.reduceLeDiff, Nat.add_zero, Nat.zero_add, Nat.le_refl, true_and, and_true, List.length_cons, List.length_nil, Option.some.injEq, exists_eq_left', exists_eq_left, exists_eq', reduceCtorEq, dX4_addOperation_0, qe_aload_0, qe_al, dX4_addOperation_1, qe_iconst, dX4_addOperation_2, qe_iload_1, qe_il, dX4_addOperation_3, dX4_addOperation_4, qe_get, qF_4_86, qe_gf, qe_fg, List.getElem?_cons_zero, List.getElem?_cons_succ, dX4_addOperation_7, dX4_addOperation_8, qF_4_92, dX4_addOperation_11, qe_iload_2, dX4_addOperation_12, qe_invs, ms_X4_addOperation_107, qe_c0, qe_c1, qe_c2, qe_c3, qe_c8, qe_c9, qe_cs, qe_cv, qe_tk, qe_tk0, qe_cat0, qe_cati, qe_catl, qe_catr, qe_catn, qe_ob, qe_cpy, qe_tl, qe_tl0, dX4_addOperation_15, qe_invv, ms_X4_addOperation_104, dX4_addOperation_18, qe_iret, qe_nar_i, qe_nar_0, qe_nar_1, h0]
  refine t_codeOf hc ?_
  simp only [qe_x, qe_v, q_get, Bool.cond_false, Bool.cond_true, Nat.reduceAdd, Nat.reduceBEq, Nat.reduceLT, Nat.reduceLeDiff, Nat.add_zero, Nat.zero_add, Nat.le_refl, true_and, and_true, List.length_cons, List.length_nil, Option.some.injEq, exists_eq_left', exists_eq_left, exists_eq', reduceCtorEq, dX4_addOperation_0, qe_aload_0, qe_al, dX4_addOperation_1, qe_iconst, dX4_addOperation_2, qe_iload_1, qe_il, dX4_addOperation_3, dX4_addOperation_4, qe_get, qF_4_86, qe_gf, qe_fg, List.getElem?_cons_zero, List.getElem?_cons_succ, dX4_addOperation_7, dX4_addOperation_8, qF_4_92, dX4_addOperation_11, qe_iload_2, dX4_addOperation_12, qe_invs, ms_X4_addOperation_107, qe_c0, qe_c1, qe_c2, qe_c3, qe_c8, qe_c9, qe_cs, qe_cv, qe_tk, qe_tk0, qe_cat0, qe_cati, qe_catl, qe_catr, qe_catn, qe_ob, qe_cpy, qe_tl, qe_tl0, dX4_addOperation_15, qe_invv, ms_X4_addOperation_104, dX4_addOperation_18, qe_iret, qe_nar_i, qe_nar_0, qe_nar_1, h0, q_kl]
  refine ⟨⟨_, rfl⟩, ?_⟩
  have e : oco k tg fi b = ((512 * k + 64 * tg + 8 * fi + b : Nat) : Int) := by unfold oco; omega
  rw [e]
  refine t_addStepG (st := 0) (0, (k, tg, fi, b), none) hg hs rfl (by rw [← e]; rfl) rfl (fun w' q1 q2 => ?_)
  simp only [qe_x, qe_v, q_get, Bool.cond_false, Bool.cond_true, Nat.reduceAdd, Nat.reduceBEq, Nat.reduceLT, Nat.reduceLeDiff, Nat.add_zero, Nat.zero_add, Nat.le_refl, true_and, and_true, List.length_cons, List.length_nil, Option.some.injEq, exists_eq_left', exists_eq_left, exists_eq', reduceCtorEq, dX4_addOperation_0, qe_aload_0, qe_al, dX4_addOperation_1, qe_iconst, dX4_addOperation_2, qe_iload_1, qe_il, dX4_addOperation_3, dX4_addOperation_4, qe_get, qF_4_86, qe_gf, qe_fg, List.getElem?_cons_zero, List.getElem?_cons_succ, dX4_addOperation_7, dX4_addOperation_8, qF_4_92, dX4_addOperation_11, qe_iload_2, dX4_addOperation_12, qe_invs, ms_X4_addOperation_107, qe_c0, qe_c1, qe_c2, qe_c3, qe_c8, qe_c9, qe_cs, qe_cv, qe_tk, qe_tk0, qe_cat0, qe_cati, qe_catl, qe_catr, qe_catn, qe_ob, qe_cpy, qe_tl, qe_tl0, dX4_addOperation_15, qe_invv, ms_X4_addOperation_104, dX4_addOperation_18, qe_iret, qe_nar_i, qe_nar_0, qe_nar_1]
  exact h w' q1 q2
theorem t_takeOpen {P L : Nat} {tx : Nat → Nat} {pg : QPg} {dp : Nat} {op : Nat → Nat} {wn ct kd tg fi : Nat} {w : QWd} {sz : Nat} {post : QPo} {c : Nat} (hg : gAt w P L tx (pg, (dp, op), wn, ct, kd, tg, fi)) (hs : pg.1 < 80) (hc : c < 128) (hd : dp ≤ 3)
    (h1 : c = 40 ∧ dp < 3 → ∀ w', gAt w' P L tx (pOpn pg dp op ct kd tg fi) → fr w w' P 6 → post (some (.int (iI 1))) w') (h2 : ¬ (c = 40 ∧ dp < 3) → post (some (.int (iI 0))) w) : T_X4_takeOpen [.ref P, .int (iI c)] w sz post := by
  have h0 := hg.1
  refine Ti_X4_takeOpen (fun G hG => hG (fun _ => false) 40 _ _ _ _ _ _ ?_)
  simp only [qe_x, qe_v, q_get, Bool.cond_false, Bool.cond_true, Nat.reduceAdd, Nat.reduceBEq, Nat.reduceLT, Nat.reduceLeDiff, Nat.add_zero, Nat.zero_add, Nat.le_refl, true_and, and_true, List.length_cons, List.length_nil, Option.some.injEq, exists_eq_left', exists_eq_left, exists_eq', reduceCtorEq, dX4_takeOpen_0, qe_iload_1, qe_il, dX4_takeOpen_1, qe_bipush, Int.reduceLE, Int.reduceLT, Int.reduceNeg, dX4_takeOpen_3, qe_icmp_ne, q_br, q_tg, Int.reduceNatCast', Int.reduceAdd, Int.reduceToNat, dX4_takeOpen_6, qe_aload_0, qe_al, dX4_takeOpen_7, qe_get, qF_4_34, qe_gf, qe_fg, List.getElem?_cons_zero, List.getElem?_cons_succ, dX4_takeOpen_10, qe_iconst, dX4_takeOpen_11, qe_icmp_ge, dX4_takeOpen_14, dX4_takeOpen_15, dX4_takeOpen_16, dX4_takeOpen_17, qF_4_101, dX4_takeOpen_20, qe_invv, ms_X4_takeOpen_104, qe_c0, qe_c1, qe_c2, qe_c3, qe_c8, qe_c9, qe_cs, qe_cv, qe_tk, qe_tk0, qe_cat0, qe_cati, qe_catl, qe_catr, qe_catn, qe_ob, qe_cpy, qe_tl, qe_tl0, dX4_takeOpen_23, qe_if_ne, dX4_takeOpen_26, dX4_takeOpen_27, qe_iret, qe_nar_i, qe_nar_0, qe_nar_1, dX4_takeOpen_28, dX4_takeOpen_29, qF_4_24, dX4_takeOpen_32, dX4_takeOpen_33, dX4_takeOpen_36, dX4_takeOpen_37, qF_4_31, dX4_takeOpen_40, dX4_takeOpen_41, qe_isub, dX4_takeOpen_42, qe_iast, qe_bi, q_st1, q_st2, q_clr, Value.category, Nat.reduceEqDiff, reduceIte, dX4_takeOpen_43, dX4_takeOpen_44, qe_dup_i, qe_dup_r, dX4_takeOpen_45, dX4_takeOpen_48, dX4_takeOpen_49, qe_iadd, dX4_takeOpen_50, qe_put, qe_pf, qe_pfF, qe_fp, qe_pv_i, qe_pv_l, qe_pv_a, qe_pv_o, qe_pv_z0, qe_pv_z1, List.set_cons_zero, List.set_cons_succ, dX4_takeOpen_53, dX4_takeOpen_54, dX4_takeOpen_55, ms_X4_takeOpen_52, dX4_takeOpen_58, h0, q_kl]
  simp (disch := omega) only [iI_eq, iI_le]
  refine ⟨fun q => h2 (by omega), fun q => ⟨fun q2 => h2 (by omega), fun q2 => ⟨⟨_, rfl⟩, ?_⟩⟩⟩
  refine t_addStepG (st := 1) (1, (ct, 0, 0, 0), none) hg hs rfl rfl rfl (fun w1 g1 f1 => ?_)
  obtain ⟨a0, ⟨b1, a1, k1⟩, ⟨b2, a2, k2⟩, ⟨b3, a3, k3⟩, ⟨b4, a4, k4⟩, ⟨b5, a5, k5⟩⟩ := g1
  have e1 : ∀ X, q_set w1 (P + 5) X P = w1 P := fun X => q_set_n _ _ (by omega)
  simp only [qe_x, qe_v, q_get, Bool.cond_false, Bool.cond_true, Nat.reduceAdd, Nat.reduceBEq, Nat.reduceLT, Nat.reduceLeDiff, Nat.add_zero, Nat.zero_add, Nat.le_refl, true_and, and_true, List.length_cons, List.length_nil, Option.some.injEq, exists_eq_left', exists_eq_left, exists_eq', reduceCtorEq, dX4_takeOpen_0, qe_iload_1, qe_il, dX4_takeOpen_1, qe_bipush, Int.reduceLE, Int.reduceLT, Int.reduceNeg, dX4_takeOpen_3, qe_icmp_ne, q_br, q_tg, Int.reduceNatCast', Int.reduceAdd, Int.reduceToNat, dX4_takeOpen_6, qe_aload_0, qe_al, dX4_takeOpen_7, qe_get, qF_4_34, qe_gf, qe_fg, List.getElem?_cons_zero, List.getElem?_cons_succ, dX4_takeOpen_10, qe_iconst, dX4_takeOpen_11, qe_icmp_ge, dX4_takeOpen_14, dX4_takeOpen_15, dX4_takeOpen_16, dX4_takeOpen_17, qF_4_101, dX4_takeOpen_20, qe_invv, ms_X4_takeOpen_104, qe_c0, qe_c1, qe_c2, qe_c3, qe_c8, qe_c9, qe_cs, qe_cv, qe_tk, qe_tk0, qe_cat0, qe_cati, qe_catl, qe_catr, qe_catn, qe_ob, qe_cpy, qe_tl, qe_tl0, dX4_takeOpen_23, qe_if_ne, dX4_takeOpen_26, dX4_takeOpen_27, qe_iret, qe_nar_i, qe_nar_0, qe_nar_1, dX4_takeOpen_28, dX4_takeOpen_29, qF_4_24, dX4_takeOpen_32, dX4_takeOpen_33, dX4_takeOpen_36, dX4_takeOpen_37, qF_4_31, dX4_takeOpen_40, dX4_takeOpen_41, qe_isub, dX4_takeOpen_42, qe_iast, qe_bi, q_st1, q_st2, q_clr, Value.category, Nat.reduceEqDiff, reduceIte, dX4_takeOpen_43, dX4_takeOpen_44, qe_dup_i, qe_dup_r, dX4_takeOpen_45, dX4_takeOpen_48, dX4_takeOpen_49, qe_iadd, dX4_takeOpen_50, qe_put, qe_pf, qe_pfF, qe_fp, qe_pv_i, qe_pv_l, qe_pv_a, qe_pv_o, qe_pv_z0, qe_pv_z1, List.set_cons_zero, List.set_cons_succ, dX4_takeOpen_53, dX4_takeOpen_54, dX4_takeOpen_55, ms_X4_takeOpen_52, dX4_takeOpen_58, a0, a5, e1, q_kl, q_set_s]
  simp (disch := omega) only [iI_inN, iI_clN, iI_add, iI_sub]
  refine ⟨fun _ => ⟨trivial, ⟨_, rfl⟩, ?_⟩, fun q => absurd (show ¬ iI 1 = iI 0 by decide) q⟩
  rw [show (((pAdd pg (1, (ct, 0, 0, 0), none)).1 : Nat) : Int) - 1 = (pg.1 : Int) by show ((pg.1 + 1 : Nat) : Int) - 1 = _; omega]
  refine t_want (x := 0) (dp := dp + 1) (q_set_s _ _ _) ?_
  simp only [qe_x, qe_v, q_get, Bool.cond_false, Bool.cond_true, Nat.reduceAdd, Nat.reduceBEq, Nat.reduceLT, Nat.reduceLeDiff, Nat.add_zero, Nat.zero_add, Nat.le_refl, true_and, and_true, List.length_cons, List.length_nil, Option.some.injEq, exists_eq_left', exists_eq_left, exists_eq', reduceCtorEq, dX4_takeOpen_0, qe_iload_1, qe_il, dX4_takeOpen_1, qe_bipush, Int.reduceLE, Int.reduceLT, Int.reduceNeg, dX4_takeOpen_3, qe_icmp_ne, q_br, q_tg, Int.reduceNatCast', Int.reduceAdd, Int.reduceToNat, dX4_takeOpen_6, qe_aload_0, qe_al, dX4_takeOpen_7, qe_get, qF_4_34, qe_gf, qe_fg, List.getElem?_cons_zero, List.getElem?_cons_succ, dX4_takeOpen_10, qe_iconst, dX4_takeOpen_11, qe_icmp_ge, dX4_takeOpen_14, dX4_takeOpen_15, dX4_takeOpen_16, dX4_takeOpen_17, qF_4_101, dX4_takeOpen_20, qe_invv, ms_X4_takeOpen_104, qe_c0, qe_c1, qe_c2, qe_c3, qe_c8, qe_c9, qe_cs, qe_cv, qe_tk, qe_tk0, qe_cat0, qe_cati, qe_catl, qe_catr, qe_catn, qe_ob, qe_cpy, qe_tl, qe_tl0, dX4_takeOpen_23, qe_if_ne, dX4_takeOpen_26, dX4_takeOpen_27, qe_iret, qe_nar_i, qe_nar_0, qe_nar_1, dX4_takeOpen_28, dX4_takeOpen_29, qF_4_24, dX4_takeOpen_32, dX4_takeOpen_33, dX4_takeOpen_36, dX4_takeOpen_37, qF_4_31, dX4_takeOpen_40, dX4_takeOpen_41, qe_isub, dX4_takeOpen_42, qe_iast, qe_bi, q_st1, q_st2, q_clr, Value.category, Nat.reduceEqDiff, reduceIte, dX4_takeOpen_43, dX4_takeOpen_44, qe_dup_i, qe_dup_r, dX4_takeOpen_45, dX4_takeOpen_48, dX4_takeOpen_49, qe_iadd, dX4_takeOpen_50, qe_put, qe_pf, qe_pfF, qe_fp, qe_pv_i, qe_pv_l, qe_pv_a, qe_pv_o, qe_pv_z0, qe_pv_z1, List.set_cons_zero, List.set_cons_succ, dX4_takeOpen_53, dX4_takeOpen_54, dX4_takeOpen_55, ms_X4_takeOpen_52, dX4_takeOpen_58, q_set_ss]
  refine h1 (by omega) _ ⟨q_set_s _ _ _, ⟨b1, ?_, k1⟩, ⟨b2, ?_, k2⟩, ⟨b3, ?_, k3⟩, ⟨b4, ?_, k4⟩, ⟨upd b5 dp (iI pg.1), ?_, fun i hi => ?_⟩⟩ ((f1.set (by omega) (by omega)).set (by omega) (by omega))
  · rw [q_set_n _ _ (by omega), q_set_n _ _ (by omega)]; exact a1
  · rw [q_set_n _ _ (by omega), q_set_n _ _ (by omega)]; exact a2
  · rw [q_set_n _ _ (by omega), q_set_n _ _ (by omega)]; exact a3
  · rw [q_set_n _ _ (by omega), q_set_n _ _ (by omega)]; exact a4
  · rw [q_set_n _ _ (by omega), q_set_s]
  · show upd b5 dp (iI pg.1) i = iI ((if i = dp then pg.1 else op i : Nat) : Int)
    by_cases q : i = dp
    · rw [if_pos q, q, up_s]
    · rw [if_neg q, up_n q]; exact k5 i (by change i < dp + 1 at hi; change i < dp; omega)
theorem t_takeClose {P L : Nat} {tx : Nat → Nat} {pg : QPg} {dp : Nat} {op : Nat → Nat} {wn ct kd tg fi : Nat} {w : QWd} {sz : Nat} {post : QPo} (hg : gAt w P L tx (pg, (dp, op), wn, ct, kd, tg, fi)) (hs : pg.1 < 80) (hd : dp ≤ 3) (ho : ∀ i, i < dp → op i < pg.1)
    (h1 : 1 ≤ dp → ∀ w', gAt w' P L tx (pCls pg (op (dp - 1)), (dp - 1, op), 0, ct, kd, tg, fi) → fr w w' P 6 → post (some (.int (iI 1))) w') (h2 : ¬ 1 ≤ dp → post (some (.int (iI 0))) w) : T_X4_takeClose [.ref P] w sz post := by
  have h0 := hg.1
  refine Ti_X4_takeClose (fun G hG => hG (fun _ => false) 60 _ _ _ _ _ _ ?_)
  simp only [qe_x, qe_v, q_get, Bool.cond_false, Bool.cond_true, Nat.reduceAdd, Nat.reduceBEq, Nat.reduceLT, Nat.reduceLeDiff, Nat.add_zero, Nat.zero_add, Nat.le_refl, true_and, and_true, List.length_cons, List.length_nil, Option.some.injEq, exists_eq_left', exists_eq_left, exists_eq', reduceCtorEq, dX4_takeClose_0, qe_aload_0, qe_al, dX4_takeClose_1, qe_get, qF_4_34, qe_gf, qe_fg, List.getElem?_cons_zero, List.getElem?_cons_succ, dX4_takeClose_4, qe_iconst, dX4_takeClose_5, qe_icmp_lt, q_br, q_tg, Int.reduceNatCast', Int.reduceAdd, Int.reduceToNat, Int.reduceLE, Int.reduceNeg, dX4_takeClose_8, dX4_takeClose_9, dX4_takeClose_10, dX4_takeClose_11, qe_invv, ms_X4_takeClose_104, qe_c0, qe_c1, qe_c2, qe_c3, qe_c8, qe_c9, qe_cs, qe_cv, qe_tk, qe_tk0, qe_cat0, qe_cati, qe_catl, qe_catr, qe_catn, qe_ob, qe_cpy, qe_tl, qe_tl0, dX4_takeClose_14, qe_if_ne, dX4_takeClose_17, dX4_takeClose_18, qe_iret, qe_nar_i, qe_nar_0, qe_nar_1, dX4_takeClose_19, dX4_takeClose_20, qe_dup_i, qe_dup_r, dX4_takeClose_21, dX4_takeClose_24, dX4_takeClose_25, qe_isub, dX4_takeClose_26, qe_put, qe_pf, qe_pfF, qe_fp, qe_pv_i, qe_pv_l, qe_pv_a, qe_pv_o, qe_pv_z0, qe_pv_z1, List.set_cons_zero, List.set_cons_succ, dX4_takeClose_29, dX4_takeClose_30, qF_4_24, dX4_takeClose_33, dX4_takeClose_34, dX4_takeClose_37, qe_iald, qe_ai, qe_ai6, dX4_takeClose_38, qe_istore_1, q_st1, q_st2, q_clr, Value.category, Nat.reduceEqDiff, reduceIte, dX4_takeClose_39, dX4_takeClose_40, qF_4_18, dX4_takeClose_43, qe_iload_1, qe_il, dX4_takeClose_44, dX4_takeClose_45, qF_4_31, dX4_takeClose_48, dX4_takeClose_49, dX4_takeClose_50, qe_iast, qe_bi, dX4_takeClose_51, dX4_takeClose_52, dX4_takeClose_55, dX4_takeClose_56, dX4_takeClose_59, dX4_takeClose_60, dX4_takeClose_61, dX4_takeClose_62, dX4_takeClose_63, dX4_takeClose_64, dX4_takeClose_65, ms_X4_takeClose_52, dX4_takeClose_68, h0, q_kl]
  simp (disch := omega) only [iI_lt]
  refine ⟨fun q => h2 (by omega), fun q => ⟨⟨_, rfl⟩, ?_⟩⟩
  have hd1 : 1 ≤ dp := by omega
  have ho1 := ho (dp - 1) (by omega)
  generalize hopn : op (dp - 1) = on at ho1 h1
  refine t_addStepG (st := 2) (ag := 0) (2, (0, 0, 0, 0), none) hg hs rfl rfl rfl (fun w1 g1 f1 => ?_)
  obtain ⟨a0, ⟨b1, a1, k1⟩, ⟨b2, a2, k2⟩, ⟨b3, a3, k3⟩, ⟨b4, a4, k4⟩, ⟨b5, a5, k5⟩⟩ := g1
  have e1 : ∀ (u : QWd) X, q_set u P X (P + 5) = u (P + 5) := fun u X => q_set_n _ _ (by omega)
  have e2 : ∀ (u : QWd) X, q_set u P X (P + 3) = u (P + 3) := fun u X => q_set_n _ _ (by omega)
  have e3 : ∀ (u : QWd) X, q_set u (P + 3) X P = u P := fun u X => q_set_n _ _ (by omega)
  simp only [qe_x, qe_v, q_get, Bool.cond_false, Bool.cond_true, Nat.reduceAdd, Nat.reduceBEq, Nat.reduceLT, Nat.reduceLeDiff, Nat.add_zero, Nat.zero_add, Nat.le_refl, true_and, and_true, List.length_cons, List.length_nil, Option.some.injEq, exists_eq_left', exists_eq_left, exists_eq', reduceCtorEq, dX4_takeClose_0, qe_aload_0, qe_al, dX4_takeClose_1, qe_get, qF_4_34, qe_gf, qe_fg, List.getElem?_cons_zero, List.getElem?_cons_succ, dX4_takeClose_4, qe_iconst, dX4_takeClose_5, qe_icmp_lt, q_br, q_tg, Int.reduceNatCast', Int.reduceAdd, Int.reduceToNat, Int.reduceLE, Int.reduceNeg, dX4_takeClose_8, dX4_takeClose_9, dX4_takeClose_10, dX4_takeClose_11, qe_invv, ms_X4_takeClose_104, qe_c0, qe_c1, qe_c2, qe_c3, qe_c8, qe_c9, qe_cs, qe_cv, qe_tk, qe_tk0, qe_cat0, qe_cati, qe_catl, qe_catr, qe_catn, qe_ob, qe_cpy, qe_tl, qe_tl0, dX4_takeClose_14, qe_if_ne, dX4_takeClose_17, dX4_takeClose_18, qe_iret, qe_nar_i, qe_nar_0, qe_nar_1, dX4_takeClose_19, dX4_takeClose_20, qe_dup_i, qe_dup_r, dX4_takeClose_21, dX4_takeClose_24, dX4_takeClose_25, qe_isub, dX4_takeClose_26, qe_put, qe_pf, qe_pfF, qe_fp, qe_pv_i, qe_pv_l, qe_pv_a, qe_pv_o, qe_pv_z0, qe_pv_z1, List.set_cons_zero, List.set_cons_succ, dX4_takeClose_29, dX4_takeClose_30, qF_4_24, dX4_takeClose_33, dX4_takeClose_34, dX4_takeClose_37, qe_iald, qe_ai, qe_ai6, dX4_takeClose_38, qe_istore_1, q_st1, q_st2, q_clr, Value.category, Nat.reduceEqDiff, reduceIte, dX4_takeClose_39, dX4_takeClose_40, qF_4_18, dX4_takeClose_43, qe_iload_1, qe_il, dX4_takeClose_44, dX4_takeClose_45, qF_4_31, dX4_takeClose_48, dX4_takeClose_49, dX4_takeClose_50, qe_iast, qe_bi, dX4_takeClose_51, dX4_takeClose_52, dX4_takeClose_55, dX4_takeClose_56, dX4_takeClose_59, dX4_takeClose_60, dX4_takeClose_61, dX4_takeClose_62, dX4_takeClose_63, dX4_takeClose_64, dX4_takeClose_65, ms_X4_takeClose_52, dX4_takeClose_68, a0, a3, a5, e1, e2, e3, q_kl, q_set_s, q_set_ss]
  rw [show ((pAdd pg (2, (0, 0, 0, 0), none)).1 : Nat) = pg.1 + 1 from rfl]
  have k5' : b5 (dp - 1) = iI on := by rw [← hopn]; exact k5 (dp - 1) (by change dp - 1 < dp; omega)
  simp (disch := omega) only [iI_sub, iI_eq]
  rw [show ((pg.1 + 1 : Nat) : Int) - 1 = (pg.1 : Int) by omega, show (dp : Int) - 1 = ((dp - 1 : Nat) : Int) by omega]
  simp (disch := omega) only [iI_inN, iI_clN, k5', q_kl]
  refine ⟨fun _ => ⟨trivial, trivial, trivial, ⟨_, rfl⟩, ?_⟩, fun q => absurd (show ¬ (1 : Int) = 0 by decide) q⟩
  refine t_want (x := 0) (L := L) (sp := pg.1 + 1) (dp := dp - 1) (wn := wn) (ct := ct) (kd := kd) (tg := tg) (fi := fi) ?_ ?_
  · rw [q_set_n _ _ (by omega), q_set_s]
  simp only [qe_x, qe_v, q_get, Bool.cond_false, Bool.cond_true, Nat.reduceAdd, Nat.reduceBEq, Nat.reduceLT, Nat.reduceLeDiff, Nat.add_zero, Nat.zero_add, Nat.le_refl, true_and, and_true, List.length_cons, List.length_nil, Option.some.injEq, exists_eq_left', exists_eq_left, exists_eq', reduceCtorEq, dX4_takeClose_0, qe_aload_0, qe_al, dX4_takeClose_1, qe_get, qF_4_34, qe_gf, qe_fg, List.getElem?_cons_zero, List.getElem?_cons_succ, dX4_takeClose_4, qe_iconst, dX4_takeClose_5, qe_icmp_lt, q_br, q_tg, Int.reduceNatCast', Int.reduceAdd, Int.reduceToNat, Int.reduceLE, Int.reduceNeg, dX4_takeClose_8, dX4_takeClose_9, dX4_takeClose_10, dX4_takeClose_11, qe_invv, ms_X4_takeClose_104, qe_c0, qe_c1, qe_c2, qe_c3, qe_c8, qe_c9, qe_cs, qe_cv, qe_tk, qe_tk0, qe_cat0, qe_cati, qe_catl, qe_catr, qe_catn, qe_ob, qe_cpy, qe_tl, qe_tl0, dX4_takeClose_14, qe_if_ne, dX4_takeClose_17, dX4_takeClose_18, qe_iret, qe_nar_i, qe_nar_0, qe_nar_1, dX4_takeClose_19, dX4_takeClose_20, qe_dup_i, qe_dup_r, dX4_takeClose_21, dX4_takeClose_24, dX4_takeClose_25, qe_isub, dX4_takeClose_26, qe_put, qe_pf, qe_pfF, qe_fp, qe_pv_i, qe_pv_l, qe_pv_a, qe_pv_o, qe_pv_z0, qe_pv_z1, List.set_cons_zero, List.set_cons_succ, dX4_takeClose_29, dX4_takeClose_30, qF_4_24, dX4_takeClose_33, dX4_takeClose_34, dX4_takeClose_37, qe_iald, qe_ai, qe_ai6, dX4_takeClose_38, qe_istore_1, q_st1, q_st2, q_clr, Value.category, Nat.reduceEqDiff, reduceIte, dX4_takeClose_39, dX4_takeClose_40, qF_4_18, dX4_takeClose_43, qe_iload_1, qe_il, dX4_takeClose_44, dX4_takeClose_45, qF_4_31, dX4_takeClose_48, dX4_takeClose_49, dX4_takeClose_50, qe_iast, qe_bi, dX4_takeClose_51, dX4_takeClose_52, dX4_takeClose_55, dX4_takeClose_56, dX4_takeClose_59, dX4_takeClose_60, dX4_takeClose_61, dX4_takeClose_62, dX4_takeClose_63, dX4_takeClose_64, dX4_takeClose_65, ms_X4_takeClose_52, dX4_takeClose_68, q_set_ss]
  have c1 : ∀ i, ((pCls pg on).2 i).1 = ((pAdd pg (2, (0, 0, 0, 0), none)).2 i).1 ∧ ((pCls pg on).2 i).2.1 = ((pAdd pg (2, (0, 0, 0, 0), none)).2 i).2.1 := fun i => by
    show ((if i = on then ((if i = pg.1 then ((2, (0, 0, 0, 0), some on) : QSp) else pg.2 i).1, (if i = pg.1 then ((2, (0, 0, 0, 0), some on) : QSp) else pg.2 i).2.1, some pg.1) else (if i = pg.1 then ((2, (0, 0, 0, 0), some on) : QSp) else pg.2 i)) : QSp).1 = (if i = pg.1 then ((2, (0, 0, 0, 0), none) : QSp) else pg.2 i).1 ∧ ((if i = on then ((if i = pg.1 then ((2, (0, 0, 0, 0), some on) : QSp) else pg.2 i).1, (if i = pg.1 then ((2, (0, 0, 0, 0), some on) : QSp) else pg.2 i).2.1, some pg.1) else (if i = pg.1 then ((2, (0, 0, 0, 0), some on) : QSp) else pg.2 i)) : QSp).2.1 = (if i = pg.1 then ((2, (0, 0, 0, 0), none) : QSp) else pg.2 i).2.1
    split <;> split <;> exact ⟨rfl, rfl⟩
  have c2 : ∀ i, sArg ((pCls pg on).2 i) = sArg ((pAdd pg (2, (0, 0, 0, 0), none)).2 i) := fun i => by
    unfold sArg
    rw [(c1 i).1, (c1 i).2]
  refine h1 hd1 _ ⟨q_set_s _ _ _, ⟨b1, ?_, fun i hi => (k1 i hi).trans (congrArg (fun z : Nat => iI z) (c1 i).1.symm)⟩, ⟨b2, ?_, fun i hi => (k2 i hi).trans (congrArg iI (c2 i).symm)⟩, ⟨upd (upd b3 on (iI pg.1)) pg.1 (iI on), ?_, fun i hi j hj => ?_⟩, ⟨b4, ?_, k4⟩, ⟨b5, ?_, fun i hi => k5 i (by change i < dp - 1 at hi; change i < dp; omega)⟩⟩ (((f1.set (by omega) (by omega)).set (by omega) (by omega)).set (by omega) (by omega))
  · rw [q_set_n _ _ (by omega), q_set_n _ _ (by omega), q_set_n _ _ (by omega)]; exact a1
  · rw [q_set_n _ _ (by omega), q_set_n _ _ (by omega), q_set_n _ _ (by omega)]; exact a2
  · rw [q_set_n _ _ (by omega), q_set_s]
  · change ((if i = on then ((if i = pg.1 then ((2, (0, 0, 0, 0), some on) : QSp) else pg.2 i).1, (if i = pg.1 then ((2, (0, 0, 0, 0), some on) : QSp) else pg.2 i).2.1, some pg.1) else (if i = pg.1 then ((2, (0, 0, 0, 0), some on) : QSp) else pg.2 i)) : QSp).2.2 = some j at hj
    change i < pg.1 + 1 at hi
    by_cases q : i = pg.1
    · rw [if_neg (by omega), if_pos q] at hj
      rw [q, up_s]
      exact congrArg (fun z : Nat => iI z) (Option.some.inj hj)
    · rw [up_n q]
      by_cases q2 : i = on
      · rw [if_pos q2] at hj
        rw [q2, up_s]
        exact congrArg (fun z : Nat => iI z) (Option.some.inj hj)
      · rw [if_neg q2, if_neg q] at hj
        rw [up_n q2]
        refine k3 i (by change i < pg.1 + 1; omega) j ?_
        show (if i = pg.1 then ((2, (0, 0, 0, 0), none) : QSp) else pg.2 i).2.2 = some j
        rw [if_neg q]; exact hj
  · rw [q_set_n _ _ (by omega), q_set_n _ _ (by omega), q_set_n _ _ (by omega)]; exact a4
  · rw [q_set_n _ _ (by omega), q_set_n _ _ (by omega), q_set_n _ _ (by omega)]; exact a5
theorem t_takeStmt {P L : Nat} {tx : Nat → Nat} {pg : QPg} {dp : Nat} {op : Nat → Nat} {ct kd tg fi : Nat} {w : QWd} {sz : Nat} {post : QPo} {c : Nat} (hg : gAt w P L tx (pg, (dp, op), 0, ct, kd, tg, fi)) (hs : pg.1 < 80) (hd : dp ≤ 3) (ho : ∀ i, i < dp → op i < pg.1) (hc : c < 128) (h32 : ¬ c = 32)
    (h1 : ∀ q w', pTake (pg, (dp, op), 0, ct, kd, tg, fi) c = some q → gAt w' P L tx q → fr w w' P 6 → post (some (.int (iI 1))) w') (h2 : pTake (pg, (dp, op), 0, ct, kd, tg, fi) c = none → post (some (.int (iI 0))) w) : T_X4_takeStatement [.ref P, .int (iI c)] w sz post := by
  have h0 := hg.1
  simp only [pTake, if_neg h32, if_true] at h1 h2
  refine Ti_X4_takeStatement (fun G hG => hG (fun _ => false) 40 _ _ _ _ _ _ ?_)
  simp only [qe_x, qe_v, q_get, Bool.cond_false, Bool.cond_true, Nat.reduceAdd, Nat.reduceBEq, Nat.reduceLT, Nat.reduceLeDiff, Nat.add_zero, Nat.zero_add, Nat.le_refl, true_and, and_true, List.length_cons, List.length_nil, Option.some.injEq, exists_eq_left', exists_eq_left, exists_eq', reduceCtorEq, dX4_takeStatement_0, qe_iload_1, qe_il, dX4_takeStatement_1, qe_invs, ms_X4_takeStatement_83, qe_c0, qe_c1, qe_c2, qe_c3, qe_c8, qe_c9, qe_cs, qe_cv, qe_tk, qe_tk0, qe_cat0, qe_cati, qe_catl, qe_catr, qe_catn, qe_ob, qe_cpy, qe_tl, qe_tl0, dX4_takeStatement_4, qe_if_eq, q_br, q_tg, Int.reduceNatCast', Int.reduceAdd, Int.reduceToNat, Int.reduceLE, Int.reduceNeg, dX4_takeStatement_7, qe_aload_0, qe_al, dX4_takeStatement_8, dX4_takeStatement_9, qe_bipush, Int.reduceLT, dX4_takeStatement_11, qe_isub, dX4_takeStatement_12, qe_put, qF_4_86, qe_pf, qe_pfF, qe_fp, qe_pv_i, qe_pv_l, qe_pv_a, qe_pv_o, qe_pv_z0, qe_pv_z1, List.set_cons_zero, List.set_cons_succ, dX4_takeStatement_15, dX4_takeStatement_16, qe_iconst, dX4_takeStatement_17, qe_invv, ms_X4_takeStatement_52, dX4_takeStatement_20, qe_iret, qe_nar_i, qe_nar_0, qe_nar_1, dX4_takeStatement_21, dX4_takeStatement_22, dX4_takeStatement_24, qe_icmp_ne, dX4_takeStatement_27, dX4_takeStatement_28, dX4_takeStatement_30, dX4_takeStatement_33, dX4_takeStatement_34, dX4_takeStatement_35, dX4_takeStatement_37, dX4_takeStatement_40, dX4_takeStatement_41, ms_X4_takeStatement_89, dX4_takeStatement_44, dX4_takeStatement_47, dX4_takeStatement_48, qe_goto, dX4_takeStatement_51, dX4_takeStatement_52]
  refine t_isReg hc ?_
  by_cases q : 48 ≤ c ∧ c < 56
  · rw [decide_eq_true q, bI_t]
    simp only [qe_x, qe_v, q_get, Bool.cond_false, Bool.cond_true, Nat.reduceAdd, Nat.reduceBEq, Nat.reduceLT, Nat.reduceLeDiff, Nat.add_zero, Nat.zero_add, Nat.le_refl, true_and, and_true, List.length_cons, List.length_nil, Option.some.injEq, exists_eq_left', exists_eq_left, exists_eq', reduceCtorEq, dX4_takeStatement_0, qe_iload_1, qe_il, dX4_takeStatement_1, qe_invs, ms_X4_takeStatement_83, qe_c0, qe_c1, qe_c2, qe_c3, qe_c8, qe_c9, qe_cs, qe_cv, qe_tk, qe_tk0, qe_cat0, qe_cati, qe_catl, qe_catr, qe_catn, qe_ob, qe_cpy, qe_tl, qe_tl0, dX4_takeStatement_4, qe_if_eq, q_br, q_tg, Int.reduceNatCast', Int.reduceAdd, Int.reduceToNat, Int.reduceLE, Int.reduceNeg, dX4_takeStatement_7, qe_aload_0, qe_al, dX4_takeStatement_8, dX4_takeStatement_9, qe_bipush, Int.reduceLT, dX4_takeStatement_11, qe_isub, dX4_takeStatement_12, qe_put, qF_4_86, qe_pf, qe_pfF, qe_fp, qe_pv_i, qe_pv_l, qe_pv_a, qe_pv_o, qe_pv_z0, qe_pv_z1, List.set_cons_zero, List.set_cons_succ, dX4_takeStatement_15, dX4_takeStatement_16, qe_iconst, dX4_takeStatement_17, qe_invv, ms_X4_takeStatement_52, dX4_takeStatement_20, qe_iret, qe_nar_i, qe_nar_0, qe_nar_1, dX4_takeStatement_21, dX4_takeStatement_22, dX4_takeStatement_24, qe_icmp_ne, dX4_takeStatement_27, dX4_takeStatement_28, dX4_takeStatement_30, dX4_takeStatement_33, dX4_takeStatement_34, dX4_takeStatement_35, dX4_takeStatement_37, dX4_takeStatement_40, dX4_takeStatement_41, ms_X4_takeStatement_89, dX4_takeStatement_44, dX4_takeStatement_47, dX4_takeStatement_48, qe_goto, dX4_takeStatement_51, dX4_takeStatement_52, h0, q_kl, q_set_s]
    simp (disch := omega) only [iI_eq, iI_0, iI_sub]
    refine ⟨fun q => absurd q (by decide), fun _ => ⟨⟨_, rfl⟩, ?_⟩⟩
    rw [show (c : Int) - 48 = ((c - 48 : Nat) : Int) by omega]
    refine t_want (x := 1) (q_set_s _ _ _) ?_
    simp only [qe_x, qe_v, q_get, Bool.cond_false, Bool.cond_true, Nat.reduceAdd, Nat.reduceBEq, Nat.reduceLT, Nat.reduceLeDiff, Nat.add_zero, Nat.zero_add, Nat.le_refl, true_and, and_true, List.length_cons, List.length_nil, Option.some.injEq, exists_eq_left', exists_eq_left, exists_eq', reduceCtorEq, dX4_takeStatement_0, qe_iload_1, qe_il, dX4_takeStatement_1, qe_invs, ms_X4_takeStatement_83, qe_c0, qe_c1, qe_c2, qe_c3, qe_c8, qe_c9, qe_cs, qe_cv, qe_tk, qe_tk0, qe_cat0, qe_cati, qe_catl, qe_catr, qe_catn, qe_ob, qe_cpy, qe_tl, qe_tl0, dX4_takeStatement_4, qe_if_eq, q_br, q_tg, Int.reduceNatCast', Int.reduceAdd, Int.reduceToNat, Int.reduceLE, Int.reduceNeg, dX4_takeStatement_7, qe_aload_0, qe_al, dX4_takeStatement_8, dX4_takeStatement_9, qe_bipush, Int.reduceLT, dX4_takeStatement_11, qe_isub, dX4_takeStatement_12, qe_put, qF_4_86, qe_pf, qe_pfF, qe_fp, qe_pv_i, qe_pv_l, qe_pv_a, qe_pv_o, qe_pv_z0, qe_pv_z1, List.set_cons_zero, List.set_cons_succ, dX4_takeStatement_15, dX4_takeStatement_16, qe_iconst, dX4_takeStatement_17, qe_invv, ms_X4_takeStatement_52, dX4_takeStatement_20, qe_iret, qe_nar_i, qe_nar_0, qe_nar_1, dX4_takeStatement_21, dX4_takeStatement_22, dX4_takeStatement_24, qe_icmp_ne, dX4_takeStatement_27, dX4_takeStatement_28, dX4_takeStatement_30, dX4_takeStatement_33, dX4_takeStatement_34, dX4_takeStatement_35, dX4_takeStatement_37, dX4_takeStatement_40, dX4_takeStatement_41, ms_X4_takeStatement_89, dX4_takeStatement_44, dX4_takeStatement_47, dX4_takeStatement_48, qe_goto, dX4_takeStatement_51, dX4_takeStatement_52, q_set_ss]
    rw [if_pos q] at h1
    exact h1 _ _ rfl (hg.cell 1 ct kd (c - 48) fi) (fr.cell (by omega))
  · rw [decide_eq_false q, bI_f]
    simp only [qe_x, qe_v, q_get, Bool.cond_false, Bool.cond_true, Nat.reduceAdd, Nat.reduceBEq, Nat.reduceLT, Nat.reduceLeDiff, Nat.add_zero, Nat.zero_add, Nat.le_refl, true_and, and_true, List.length_cons, List.length_nil, Option.some.injEq, exists_eq_left', exists_eq_left, exists_eq', reduceCtorEq, dX4_takeStatement_0, qe_iload_1, qe_il, dX4_takeStatement_1, qe_invs, ms_X4_takeStatement_83, qe_c0, qe_c1, qe_c2, qe_c3, qe_c8, qe_c9, qe_cs, qe_cv, qe_tk, qe_tk0, qe_cat0, qe_cati, qe_catl, qe_catr, qe_catn, qe_ob, qe_cpy, qe_tl, qe_tl0, dX4_takeStatement_4, qe_if_eq, q_br, q_tg, Int.reduceNatCast', Int.reduceAdd, Int.reduceToNat, Int.reduceLE, Int.reduceNeg, dX4_takeStatement_7, qe_aload_0, qe_al, dX4_takeStatement_8, dX4_takeStatement_9, qe_bipush, Int.reduceLT, dX4_takeStatement_11, qe_isub, dX4_takeStatement_12, qe_put, qF_4_86, qe_pf, qe_pfF, qe_fp, qe_pv_i, qe_pv_l, qe_pv_a, qe_pv_o, qe_pv_z0, qe_pv_z1, List.set_cons_zero, List.set_cons_succ, dX4_takeStatement_15, dX4_takeStatement_16, qe_iconst, dX4_takeStatement_17, qe_invv, ms_X4_takeStatement_52, dX4_takeStatement_20, qe_iret, qe_nar_i, qe_nar_0, qe_nar_1, dX4_takeStatement_21, dX4_takeStatement_22, dX4_takeStatement_24, qe_icmp_ne, dX4_takeStatement_27, dX4_takeStatement_28, dX4_takeStatement_30, dX4_takeStatement_33, dX4_takeStatement_34, dX4_takeStatement_35, dX4_takeStatement_37, dX4_takeStatement_40, dX4_takeStatement_41, ms_X4_takeStatement_89, dX4_takeStatement_44, dX4_takeStatement_47, dX4_takeStatement_48, qe_goto, dX4_takeStatement_51, dX4_takeStatement_52, h0, q_kl, q_set_s]
    simp (disch := omega) only [iI_eq, iI_0, iI_sub]
    rw [if_neg q] at h1 h2
    refine ⟨fun _ => ⟨fun q2 => ⟨fun q3 => ?_, fun q3 => ⟨⟨_, rfl⟩, ?_⟩⟩, fun q2 => ⟨⟨_, rfl⟩, ?_⟩⟩, fun q => absurd trivial q⟩
    · rw [if_neg (by omega), if_neg (by omega)] at h2
      exact h2 rfl
    · rw [if_neg (by omega)] at h1 h2
      refine t_takeClose hg hs hd ho (fun q4 w' g' f' => ?_) (fun q4 => ?_)
      · simp only [qe_x, qe_v, q_get, Bool.cond_false, Bool.cond_true, Nat.reduceAdd, Nat.reduceBEq, Nat.reduceLT, Nat.reduceLeDiff, Nat.add_zero, Nat.zero_add, Nat.le_refl, true_and, and_true, List.length_cons, List.length_nil, Option.some.injEq, exists_eq_left', exists_eq_left, exists_eq', reduceCtorEq, dX4_takeStatement_0, qe_iload_1, qe_il, dX4_takeStatement_1, qe_invs, ms_X4_takeStatement_83, qe_c0, qe_c1, qe_c2, qe_c3, qe_c8, qe_c9, qe_cs, qe_cv, qe_tk, qe_tk0, qe_cat0, qe_cati, qe_catl, qe_catr, qe_catn, qe_ob, qe_cpy, qe_tl, qe_tl0, dX4_takeStatement_4, qe_if_eq, q_br, q_tg, Int.reduceNatCast', Int.reduceAdd, Int.reduceToNat, Int.reduceLE, Int.reduceNeg, dX4_takeStatement_7, qe_aload_0, qe_al, dX4_takeStatement_8, dX4_takeStatement_9, qe_bipush, Int.reduceLT, dX4_takeStatement_11, qe_isub, dX4_takeStatement_12, qe_put, qF_4_86, qe_pf, qe_pfF, qe_fp, qe_pv_i, qe_pv_l, qe_pv_a, qe_pv_o, qe_pv_z0, qe_pv_z1, List.set_cons_zero, List.set_cons_succ, dX4_takeStatement_15, dX4_takeStatement_16, qe_iconst, dX4_takeStatement_17, qe_invv, ms_X4_takeStatement_52, dX4_takeStatement_20, qe_iret, qe_nar_i, qe_nar_0, qe_nar_1, dX4_takeStatement_21, dX4_takeStatement_22, dX4_takeStatement_24, qe_icmp_ne, dX4_takeStatement_27, dX4_takeStatement_28, dX4_takeStatement_30, dX4_takeStatement_33, dX4_takeStatement_34, dX4_takeStatement_35, dX4_takeStatement_37, dX4_takeStatement_40, dX4_takeStatement_41, ms_X4_takeStatement_89, dX4_takeStatement_44, dX4_takeStatement_47, dX4_takeStatement_48, qe_goto, dX4_takeStatement_51, dX4_takeStatement_52]
        rw [if_pos ⟨by omega, q4⟩] at h1
        exact (0 : Nat)
      · simp only [qe_x, qe_v, q_get, Bool.cond_false, Bool.cond_true, Nat.reduceAdd, Nat.reduceBEq, Nat.reduceLT, Nat.reduceLeDiff, Nat.add_zero, Nat.zero_add, Nat.le_refl, true_and, and_true, List.length_cons, List.length_nil, Option.some.injEq, exists_eq_left', exists_eq_left, exists_eq', reduceCtorEq, dX4_takeStatement_0, qe_iload_1, qe_il, dX4_takeStatement_1, qe_invs, ms_X4_takeStatement_83, qe_c0, qe_c1, qe_c2, qe_c3, qe_c8, qe_c9, qe_cs, qe_cv, qe_tk, qe_tk0, qe_cat0, qe_cati, qe_catl, qe_catr, qe_catn, qe_ob, qe_cpy, qe_tl, qe_tl0, dX4_takeStatement_4, qe_if_eq, q_br, q_tg, Int.reduceNatCast', Int.reduceAdd, Int.reduceToNat, Int.reduceLE, Int.reduceNeg, dX4_takeStatement_7, qe_aload_0, qe_al, dX4_takeStatement_8, dX4_takeStatement_9, qe_bipush, Int.reduceLT, dX4_takeStatement_11, qe_isub, dX4_takeStatement_12, qe_put, qF_4_86, qe_pf, qe_pfF, qe_fp, qe_pv_i, qe_pv_l, qe_pv_a, qe_pv_o, qe_pv_z0, qe_pv_z1, List.set_cons_zero, List.set_cons_succ, dX4_takeStatement_15, dX4_takeStatement_16, qe_iconst, dX4_takeStatement_17, qe_invv, ms_X4_takeStatement_52, dX4_takeStatement_20, qe_iret, qe_nar_i, qe_nar_0, qe_nar_1, dX4_takeStatement_21, dX4_takeStatement_22, dX4_takeStatement_24, qe_icmp_ne, dX4_takeStatement_27, dX4_takeStatement_28, dX4_takeStatement_30, dX4_takeStatement_33, dX4_takeStatement_34, dX4_takeStatement_35, dX4_takeStatement_37, dX4_takeStatement_40, dX4_takeStatement_41, ms_X4_takeStatement_89, dX4_takeStatement_44, dX4_takeStatement_47, dX4_takeStatement_48, qe_goto, dX4_takeStatement_51, dX4_takeStatement_52]
        rw [if_neg (by omega)] at h2
        exact (0 : Nat)
    · refine t_want (x := 8) h0 ?_
      simp only [qe_x, qe_v, q_get, Bool.cond_false, Bool.cond_true, Nat.reduceAdd, Nat.reduceBEq, Nat.reduceLT, Nat.reduceLeDiff, Nat.add_zero, Nat.zero_add, Nat.le_refl, true_and, and_true, List.length_cons, List.length_nil, Option.some.injEq, exists_eq_left', exists_eq_left, exists_eq', reduceCtorEq, dX4_takeStatement_0, qe_iload_1, qe_il, dX4_takeStatement_1, qe_invs, ms_X4_takeStatement_83, qe_c0, qe_c1, qe_c2, qe_c3, qe_c8, qe_c9, qe_cs, qe_cv, qe_tk, qe_tk0, qe_cat0, qe_cati, qe_catl, qe_catr, qe_catn, qe_ob, qe_cpy, qe_tl, qe_tl0, dX4_takeStatement_4, qe_if_eq, q_br, q_tg, Int.reduceNatCast', Int.reduceAdd, Int.reduceToNat, Int.reduceLE, Int.reduceNeg, dX4_takeStatement_7, qe_aload_0, qe_al, dX4_takeStatement_8, dX4_takeStatement_9, qe_bipush, Int.reduceLT, dX4_takeStatement_11, qe_isub, dX4_takeStatement_12, qe_put, qF_4_86, qe_pf, qe_pfF, qe_fp, qe_pv_i, qe_pv_l, qe_pv_a, qe_pv_o, qe_pv_z0, qe_pv_z1, List.set_cons_zero, List.set_cons_succ, dX4_takeStatement_15, dX4_takeStatement_16, qe_iconst, dX4_takeStatement_17, qe_invv, ms_X4_takeStatement_52, dX4_takeStatement_20, qe_iret, qe_nar_i, qe_nar_0, qe_nar_1, dX4_takeStatement_21, dX4_takeStatement_22, dX4_takeStatement_24, qe_icmp_ne, dX4_takeStatement_27, dX4_takeStatement_28, dX4_takeStatement_30, dX4_takeStatement_33, dX4_takeStatement_34, dX4_takeStatement_35, dX4_takeStatement_37, dX4_takeStatement_40, dX4_takeStatement_41, ms_X4_takeStatement_89, dX4_takeStatement_44, dX4_takeStatement_47, dX4_takeStatement_48, qe_goto, dX4_takeStatement_51, dX4_takeStatement_52]
      rw [if_pos (by omega)] at h1
      exact h1 _ _ rfl (hg.cell 8 ct kd tg fi) (fr.cell (by omega))
