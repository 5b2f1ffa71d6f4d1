/-! ===== Runner ===== -/
def olL (s : Nat → QSp) (l : List Nat) : Nat := (opsL s l).length
/-- the counts of the operations done in the rounds that are under way -/
def cnI (s : Nat → QSp) (og rl db : Nat → Nat) (dn : Nat) : Nat → Nat → Nat → Prop
  | 0, _, _ => True
  | d + 1, p, r => (olL s (trT s (og d + 1) (pcl s (og d))) + db d = dn + r + olL s (trT s p (pcl s (og d))) ∧ db d ≤ dn) ∧ cnI s og rl db dn d (pcl s (og d) + 1) (r + olL s (trT s p (pcl s (og d))) + (rl d - 1) * olL s (trT s (og d + 1) (pcl s (og d))))
def dty (db : Nat → Nat) (dn : Nat) : Nat → Nat
  | 0 => 0
  | d + 1 => dty db dn d + (if db d < dn then 1 else 0)
section
variable {n : Nat} {s : Nat → QSp} {lv og rl db : Nat → Nat} {dn d p r : Nat}
theorem dty_cg {db' : Nat → Nat} : ∀ {d : Nat}, (∀ i, i < d → db i = db' i) → dty db dn d = dty db' dn d := by
  intro d
  induction d with
  | zero => intro _; rfl
  | succ d ih =>
    intro h
    show dty db dn d + _ = dty db' dn d + _
    rw [ih (fun i hi => h i (by omega)), h d (by omega)]
theorem dty_le : ∀ {d : Nat}, dty db dn d ≤ d := by
  intro d
  induction d with
  | zero => exact Nat.le_refl _
  | succ d ih =>
    show dty db dn d + _ ≤ d + 1
    split <;> omega
theorem cnI_cg {og' rl' db' : Nat → Nat} : ∀ {d p r : Nat}, (∀ i, i < d → og i = og' i ∧ rl i = rl' i ∧ db i = db' i) → cnI s og rl db dn d p r → cnI s og' rl' db' dn d p r := by
  intro d
  induction d with
  | zero => intro p r _ _; exact trivial
  | succ d ih =>
    intro p r h hv
    obtain ⟨a, b⟩ := hv
    obtain ⟨e1, e2, e3⟩ := h d (by omega)
    have b' := ih (fun i hi => h i (by omega)) b
    rw [e1] at a b'
    rw [e2] at b'
    rw [e3] at a
    exact ⟨a, b'⟩
theorem cnI_sh : ∀ {d p r : Nat}, cnI s og rl db dn d p (r + 1) → cnI s og rl db (dn + 1) d p r := by
  intro d
  induction d with
  | zero => intro p r _; exact trivial
  | succ d ih =>
    intro p r hv
    obtain ⟨⟨a1, a2⟩, b⟩ := hv
    refine ⟨⟨by omega, by omega⟩, ih ?_⟩
    rw [show r + olL s (trT s p (pcl s (og d))) + (rl d - 1) * olL s (trT s (og d + 1) (pcl s (og d))) + 1 = r + 1 + olL s (trT s p (pcl s (og d))) + (rl d - 1) * olL s (trT s (og d + 1) (pcl s (og d))) by omega]
    exact b
theorem vld_ne (hW : pWF n s lv) (hv : vld n s lv og rl (d + 1) p) (hp : ¬ (s p).1 = 2) : p < pcl s (og d) := by
  obtain ⟨⟨a1, a2, a3, a4, a5, -⟩, -⟩ := hv
  rcases Nat.lt_or_ge p (pcl s (og d)) with q | q
  · exact q
  · have e : p = pcl s (og d) := by omega
    rcases hW (og d) a1 with ⟨q, -⟩ | ⟨-, -, -, c, q1, -, -, q2, -⟩ | ⟨q, -⟩
    · omega
    · rw [a3] at q1
      rw [← Option.some.inj q1, ← e] at q2
      omega
    · omega
theorem cnI_op (hW : pWF n s lv) (hv : vld n s lv og rl d p) (h0 : (s p).1 = 0) (h : cnI s og rl db dn d p 0) : cnI s og rl db (dn + 1) d (p + 1) 0 := by
  cases d with
  | zero => exact trivial
  | succ d =>
    have hp := vld_ne hW hv (by omega)
    obtain ⟨⟨a1, a2⟩, b⟩ := h
    have e : olL s (trT s p (pcl s (og d))) = 1 + olL s (trT s (p + 1) (pcl s (og d))) := by
      unfold olL
      rw [trT_op hp (by omega), opsL_y _ h0, List.length_cons]; omega
    rw [e] at a1 b
    refine ⟨⟨by omega, by omega⟩, cnI_sh ?_⟩
    rw [show 0 + olL s (trT s (p + 1) (pcl s (og d))) + (rl d - 1) * olL s (trT s (og d + 1) (pcl s (og d))) + 1 = 0 + (1 + olL s (trT s (p + 1) (pcl s (og d)))) + (rl d - 1) * olL s (trT s (og d + 1) (pcl s (og d))) by omega]
    exact b
theorem cnI_past (hW : pWF n s lv) (hv : vld n s lv og rl d p) {c : Nat} (h1 : (s p).1 = 1) (hp : p < n) (ec : (s p).2.2 = some c) (hc : (s c).1 = 2) (h : cnI s og rl db dn d p 0) : cnI s og rl db dn d (c + 1) ((s p).2.1.1 * olL s (trT s (p + 1) c)) := by
  cases d with
  | zero => exact trivial
  | succ d =>
    have hp2 := vld_ne hW hv (by omega)
    obtain ⟨⟨-, -, -, a4, -, -, -, -, -, a9, -⟩, -⟩ := hv
    have hcc := (a9 p (by omega) hp2 c ec).2
    have hpc : p < c := by
      rcases hW p hp with ⟨q, -⟩ | ⟨-, -, -, c', q1, q2, -⟩ | ⟨q, -⟩
      · omega
      · rw [ec] at q1; rw [Option.some.inj q1]; exact q2
      · omega
    obtain ⟨⟨a1, a2⟩, b⟩ := h
    have e : olL s (trT s p (pcl s (og d))) = (s p).2.1.1 * olL s (trT s (p + 1) c) + olL s (trT s (c + 1) (pcl s (og d))) := by
      unfold olL
      rw [trT_lp h1 ec hpc hcc, opsL_n _ (by omega), opsL_app, List.length_append, opsL_repL, opsL_app, opsL_n [] (by omega), List.length_append]
      rfl
    rw [e] at a1 b
    refine ⟨⟨by omega, a2⟩, ?_⟩
    rw [show (s p).2.1.1 * olL s (trT s (p + 1) c) + olL s (trT s (c + 1) (pcl s (og d))) + (rl d - 1) * olL s (trT s (og d + 1) (pcl s (og d))) = 0 + ((s p).2.1.1 * olL s (trT s (p + 1) c) + olL s (trT s (c + 1) (pcl s (og d)))) + (rl d - 1) * olL s (trT s (og d + 1) (pcl s (og d))) by omega]
    exact b
end
abbrev cRn (U dn st d p : Nat) : QCl := .inr (5, [.int (iI dn), .int (iI st), .ref (U + 1), .ref (U + 2), .int (iI d), .int (iI p)])
def uAt (w : QWd) (U dn st d p : Nat) (rl db : Nat → Nat) : Prop := w U = some (cRn U dn st d p) ∧ (∃ f, w (U + 1) = some (aInt 3 f) ∧ ∀ i, i < d → f i = iI (rl i)) ∧ (∃ f, w (U + 2) = some (aInt 3 f) ∧ ∀ i, i < d → f i = iI (db i))
theorem uAt.fr {w w' : QWd} {U dn st d p b m : Nat} {rl db : Nat → Nat} (h : uAt w U dn st d p rl db) (hf : fr w w' b m) (hd : U + 3 ≤ b ∨ b + m ≤ U) : uAt w' U dn st d p rl db := by
  obtain ⟨h0, ⟨f1, h1, k1⟩, ⟨f2, h2, k2⟩⟩ := h
  exact ⟨by rw [hf _ (by omega)]; exact h0, ⟨f1, by rw [hf _ (by omega)]; exact h1, k1⟩, ⟨f2, by rw [hf _ (by omega)]; exact h2, k2⟩⟩
theorem uAt.cell {w : QWd} {U dn st d p : Nat} {rl db : Nat → Nat} (dn' st' p' : Nat) (h : uAt w U dn st d p rl db) : uAt (q_set w U (cRn U dn' st' d p')) U dn' st' d p' rl db := by
  obtain ⟨h0, ⟨f1, h1, k1⟩, ⟨f2, h2, k2⟩⟩ := h
  exact ⟨q_set_s _ _ _, ⟨f1, by rw [q_set_n _ _ (by omega)]; exact h1, k1⟩, ⟨f2, by rw [q_set_n _ _ (by omega)]; exact h2, k2⟩⟩
section
variable {U dn st d p : Nat} {rl db : Nat → Nat} {w : QWd} {sz : Nat} {post : QPo}
theorem t_start (hu : uAt w U dn st d p rl db) (h : ∀ w', uAt w' U 0 0 0 0 rl db → fr w w' U 3 → post none w') : T_X5_start [.ref U] w sz post := by
  obtain ⟨h0, ⟨f1, h1, k1⟩, ⟨f2, h2, k2⟩⟩ := hu
  refine Ti_X5_start (fun G hG => hG (fun _ => false) 30 _ _ _ _ _ _ ?_)
  simp only [qe_x, qe_v, q_get, Bool.cond_false, Bool.cond_true, Nat.reduceAdd, Nat.reduceBEq, Nat.reduceLT, Nat.reduceLeDiff, Nat.add_zero, Nat.zero_add, Nat.le_refl, true_and, and_true, List.length_cons, List.length_nil, Option.some.injEq, exists_eq_left', exists_eq_left, exists_eq', reduceCtorEq, dX5_start_0, qe_aload_0, qe_al, dX5_start_1, qe_iconst, dX5_start_2, qe_put, qF_5_27, qe_pf, qe_pfF, qe_fp, qe_pv_i, qe_pv_l, qe_pv_a, qe_pv_o, qe_pv_z0, qe_pv_z1, List.set_cons_zero, List.set_cons_succ, dX5_start_5, dX5_start_6, dX5_start_7, qF_5_47, dX5_start_10, dX5_start_11, dX5_start_12, qF_5_50, dX5_start_15, dX5_start_16, dX5_start_17, qF_5_53, dX5_start_20, qe_vret, h0, q_set_s, q_set_ss]
  exact h _ ⟨q_set_s _ _ _, ⟨f1, by rw [q_set_n _ _ (by omega)]; exact h1, fun i hi => by omega⟩, ⟨f2, by rw [q_set_n _ _ (by omega)]; exact h2, fun i hi => by omega⟩⟩ (fr.cell (by omega))
theorem t_enterLoop0 {c : Nat} (hu : uAt w U dn st d p rl db) (h : ∀ w', uAt w' U dn st d (c + 1) rl db → fr w w' U 3 → post none w') : T_X5_enterLoop [.ref U, .int (iI (0 : Nat)), .int (iI c)] w sz post := by
  have h0 := hu.1
  refine Ti_X5_enterLoop (fun G hG => hG (fun _ => false) 30 _ _ _ _ _ _ ?_)
  simp only [qe_x, qe_v, q_get, Bool.cond_false, Bool.cond_true, Nat.reduceAdd, Nat.reduceBEq, Nat.reduceLT, Nat.reduceLeDiff, Nat.add_zero, Nat.zero_add, Nat.le_refl, true_and, and_true, List.length_cons, List.length_nil, Option.some.injEq, exists_eq_left', exists_eq_left, exists_eq', reduceCtorEq, dX5_enterLoop_0, qe_iload_1, qe_il, dX5_enterLoop_1, qe_iconst, dX5_enterLoop_2, qe_icmp_lt, q_br, q_tg, Int.reduceNatCast', Int.reduceAdd, Int.reduceToNat, Int.reduceLE, Int.reduceNeg, dX5_enterLoop_5, qe_aload_0, qe_al, dX5_enterLoop_6, qe_get, qF_5_50, qe_gf, qe_fg, List.getElem?_cons_zero, List.getElem?_cons_succ, dX5_enterLoop_9, dX5_enterLoop_10, dX5_enterLoop_13, dX5_enterLoop_14, qe_iload_2, dX5_enterLoop_15, dX5_enterLoop_16, qe_iadd, dX5_enterLoop_17, qe_put, qF_5_53, qe_pf, qe_pfF, qe_fp, qe_pv_i, qe_pv_l, qe_pv_a, qe_pv_o, qe_pv_z0, qe_pv_z1, List.set_cons_zero, List.set_cons_succ, dX5_enterLoop_20, qe_vret, dX5_enterLoop_21, dX5_enterLoop_22, qF_5_11, dX5_enterLoop_25, dX5_enterLoop_26, dX5_enterLoop_29, dX5_enterLoop_30, qe_iast, qe_bi, q_st1, q_st2, q_clr, Value.category, Nat.reduceEqDiff, reduceIte, dX5_enterLoop_31, dX5_enterLoop_32, qF_5_17, dX5_enterLoop_35, dX5_enterLoop_36, dX5_enterLoop_39, dX5_enterLoop_40, qF_5_27, dX5_enterLoop_43, dX5_enterLoop_44, dX5_enterLoop_45, qe_dup_i, qe_dup_r, dX5_enterLoop_46, dX5_enterLoop_49, dX5_enterLoop_50, dX5_enterLoop_51, dX5_enterLoop_54, h0]
  simp (disch := omega) only [iI_lt, iI_add]
  exact ⟨fun _ => h _ (hu.cell dn st (c + 1)) (fr.cell (by omega)), fun q => absurd (show ((0 : Nat) : Int) < 1 by omega) q⟩
theorem t_enterLoop1 {c r : Nat} (hu : uAt w U dn st d p rl db) (hr : 1 ≤ r) (hr2 : r < 100) (hd : d < 3) (h : ∀ w', uAt w' U dn st (d + 1) p (nup1 rl d r) (nup1 db d dn) → fr w w' U 3 → post none w') : T_X5_enterLoop [.ref U, .int (iI r), .int (iI c)] w sz post := by
  obtain ⟨h0, ⟨f1, h1, k1⟩, ⟨f2, h2, k2⟩⟩ := hu
  refine Ti_X5_enterLoop (fun G hG => hG (fun _ => false) 40 _ _ _ _ _ _ ?_)
  have e1 : ∀ X, q_set w (U + 1) X U = w U := fun X => q_set_n _ _ (by omega)
  have e2 : ∀ X, q_set w (U + 1) X (U + 2) = w (U + 2) := fun X => q_set_n _ _ (by omega)
  have e3 : ∀ (u : QWd) X, q_set u (U + 2) X U = u U := fun u X => q_set_n _ _ (by omega)
  simp only [qe_x, qe_v, q_get, Bool.cond_false, Bool.cond_true, Nat.reduceAdd, Nat.reduceBEq, Nat.reduceLT, Nat.reduceLeDiff, Nat.add_zero, Nat.zero_add, Nat.le_refl, true_and, and_true, List.length_cons, List.length_nil, Option.some.injEq, exists_eq_left', exists_eq_left, exists_eq', reduceCtorEq, dX5_enterLoop_0, qe_iload_1, qe_il, dX5_enterLoop_1, qe_iconst, dX5_enterLoop_2, qe_icmp_lt, q_br, q_tg, Int.reduceNatCast', Int.reduceAdd, Int.reduceToNat, Int.reduceLE, Int.reduceNeg, dX5_enterLoop_5, qe_aload_0, qe_al, dX5_enterLoop_6, qe_get, qF_5_50, qe_gf, qe_fg, List.getElem?_cons_zero, List.getElem?_cons_succ, dX5_enterLoop_9, dX5_enterLoop_10, dX5_enterLoop_13, dX5_enterLoop_14, qe_iload_2, dX5_enterLoop_15, dX5_enterLoop_16, qe_iadd, dX5_enterLoop_17, qe_put, qF_5_53, qe_pf, qe_pfF, qe_fp, qe_pv_i, qe_pv_l, qe_pv_a, qe_pv_o, qe_pv_z0, qe_pv_z1, List.set_cons_zero, List.set_cons_succ, dX5_enterLoop_20, qe_vret, dX5_enterLoop_21, dX5_enterLoop_22, qF_5_11, dX5_enterLoop_25, dX5_enterLoop_26, dX5_enterLoop_29, dX5_enterLoop_30, qe_iast, qe_bi, q_st1, q_st2, q_clr, Value.category, Nat.reduceEqDiff, reduceIte, dX5_enterLoop_31, dX5_enterLoop_32, qF_5_17, dX5_enterLoop_35, dX5_enterLoop_36, dX5_enterLoop_39, dX5_enterLoop_40, qF_5_27, dX5_enterLoop_43, dX5_enterLoop_44, dX5_enterLoop_45, qe_dup_i, qe_dup_r, dX5_enterLoop_46, dX5_enterLoop_49, dX5_enterLoop_50, dX5_enterLoop_51, dX5_enterLoop_54, h0, h1, h2, e1, e2, e3]
  simp (disch := omega) only [iI_lt, iI_add, iI_inN, iI_clN, true_and]
  refine ⟨fun q => absurd q (by omega), fun _ => ⟨fun _ => ?_, fun q => absurd (show (d : Int) < 3 by omega) q⟩⟩
  refine h _ ⟨q_set_s _ _ _, ⟨upd f1 d (iI r), ?_, fun i hi => ?_⟩, ⟨upd f2 d (iI dn), ?_, fun i hi => ?_⟩⟩ (((fr.rf.set (by omega) (by omega)).set (by omega) (by omega)).set (by omega) (by omega))
  · rw [q_set_n _ _ (by omega), q_set_n _ _ (by omega), q_set_s]
  · by_cases q : i = d
    · rw [q, up_s, nup1_s]
    · rw [up_n q, nup1_n q]; exact k1 i (by omega)
  · rw [q_set_n _ _ (by omega), q_set_s]
  · by_cases q : i = d
    · rw [q, up_s, nup1_s]
    · rw [up_n q, nup1_n q]; exact k2 i (by omega)
theorem t_endRound {o e : Nat} (hu : uAt w U dn st (e + 1) p rl db) (he : e < 3) (hr : 1 ≤ rl e) (hr2 : rl e < 100) (hdn : dn ≤ 100) (hdb : db e ≤ dn)
    (h1 : 2 ≤ rl e → db e < dn → ∀ w', uAt w' U dn st (e + 1) (o + 1) (nup1 rl e (rl e - 1)) (nup1 db e dn) → fr w w' U 3 → post none w')
    (h2 : ¬ (2 ≤ rl e ∧ db e < dn) → ∀ w', uAt w' U dn st e p rl db → fr w w' U 3 → post none w') : T_X5_endRound [.ref U, .int (iI o)] w sz post := by
  obtain ⟨a0, ⟨f1, a1, k1⟩, ⟨f2, a2, k2⟩⟩ := hu
  refine Ti_X5_endRound (fun G hG => hG (fun _ => false) 60 _ _ _ _ _ _ ?_)
  have e1 : ∀ X, q_set w (U + 1) X U = w U := fun X => q_set_n _ _ (by omega)
  have e2 : ∀ X, q_set w (U + 1) X (U + 2) = w (U + 2) := fun X => q_set_n _ _ (by omega)
  have e3 : ∀ (u : QWd) X, q_set u (U + 2) X U = u U := fun u X => q_set_n _ _ (by omega)
  simp only [qe_x, qe_v, q_get, Bool.cond_false, Bool.cond_true, Nat.reduceAdd, Nat.reduceBEq, Nat.reduceLT, Nat.reduceLeDiff, Nat.add_zero, Nat.zero_add, Nat.le_refl, true_and, and_true, List.length_cons, List.length_nil, Option.some.injEq, exists_eq_left', exists_eq_left, exists_eq', reduceCtorEq, dX5_endRound_0, qe_aload_0, qe_al, dX5_endRound_1, qe_get, qF_5_50, qe_gf, qe_fg, List.getElem?_cons_zero, List.getElem?_cons_succ, dX5_endRound_4, qe_iconst, dX5_endRound_5, qe_isub, dX5_endRound_6, qe_istore_2, q_st1, q_st2, q_clr, Value.category, Nat.reduceEqDiff, reduceIte, dX5_endRound_7, qe_iload_2, qe_il, dX5_endRound_8, qe_if_ge, q_br, q_tg, Int.reduceNatCast', Int.reduceAdd, Int.reduceToNat, Int.reduceLE, Int.reduceNeg, dX5_endRound_11, qe_vret, dX5_endRound_12, dX5_endRound_13, qF_5_11, dX5_endRound_16, dX5_endRound_17, qe_dup2_l, qe_dup2_ir, dX5_endRound_18, qe_iald, qe_ai, qe_ai6, dX5_endRound_19, dX5_endRound_20, dX5_endRound_21, qe_iast, qe_bi, dX5_endRound_22, dX5_endRound_23, dX5_endRound_26, dX5_endRound_27, dX5_endRound_28, qe_if_le, dX5_endRound_31, dX5_endRound_32, qF_5_27, dX5_endRound_35, dX5_endRound_36, qF_5_17, dX5_endRound_39, dX5_endRound_40, dX5_endRound_41, qe_icmp_le, dX5_endRound_44, dX5_endRound_45, dX5_endRound_48, dX5_endRound_49, dX5_endRound_50, dX5_endRound_53, dX5_endRound_54, dX5_endRound_55, qe_iload_1, dX5_endRound_56, dX5_endRound_57, qe_iadd, dX5_endRound_58, qe_put, qF_5_53, qe_pf, qe_pfF, qe_fp, qe_pv_i, qe_pv_l, qe_pv_a, qe_pv_o, qe_pv_z0, qe_pv_z1, List.set_cons_zero, List.set_cons_succ, dX5_endRound_61, qe_goto, dX5_endRound_64, dX5_endRound_65, qe_dup_i, qe_dup_r, dX5_endRound_66, dX5_endRound_69, dX5_endRound_70, dX5_endRound_71, dX5_endRound_74, a0, a1, a2, e1, e2, e3, q_set_s, q_set_ss]
  simp (disch := omega) only [iI_sub, iI_add]
  rw [show ((e + 1 : Nat) : Int) - 1 = (e : Int) by omega]
  simp (disch := omega) only [iI_inN, iI_clN, iI_0, iI_le, iI_lt, k1 e (by omega), k2 e (by omega), up_s, iI_sub, true_and]
  refine ⟨fun _ => ⟨fun q => ?_, fun q => ⟨fun q2 => ?_, fun q2 => ?_⟩⟩, fun q => absurd (show (0 : Int) ≤ e by omega) q⟩
  · refine h2 (by omega) _ ⟨q_set_s _ _ _, ⟨_, by rw [q_set_n _ _ (by omega), q_set_s], fun i hi => ?_⟩, ⟨f2, by rw [q_set_n _ _ (by omega), q_set_n _ _ (by omega)]; exact a2, fun i hi => k2 i (by omega)⟩⟩ ((fr.rf.set (by omega) (by omega)).set (by omega) (by omega))
    rw [up_n (by omega)]; exact k1 i (by omega)
  · refine h2 (by omega) _ ⟨q_set_s _ _ _, ⟨_, by rw [q_set_n _ _ (by omega), q_set_s], fun i hi => ?_⟩, ⟨f2, by rw [q_set_n _ _ (by omega), q_set_n _ _ (by omega)]; exact a2, fun i hi => k2 i (by omega)⟩⟩ ((fr.rf.set (by omega) (by omega)).set (by omega) (by omega))
    rw [up_n (by omega)]; exact k1 i (by omega)
  · refine h1 (by omega) (by omega) _ ⟨q_set_s _ _ _, ⟨_, by rw [q_set_n _ _ (by omega), q_set_n _ _ (by omega), q_set_s], fun i hi => ?_⟩, ⟨_, by rw [q_set_n _ _ (by omega), q_set_s], fun i hi => ?_⟩⟩ (((fr.rf.set (by omega) (by omega)).set (by omega) (by omega)).set (by omega) (by omega))
    · by_cases q : i = e
      · rw [q, up_s, nup1_s, show ((rl e - 1 : Nat) : Int) = (rl e : Int) - 1 by omega]
      · rw [up_n q, nup1_n q]; exact k1 i (by omega)
    · by_cases q : i = e
      · rw [q, up_s, nup1_s]
      · rw [up_n q, nup1_n q]; exact k2 i (by omega)
end
