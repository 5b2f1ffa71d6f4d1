/-! ===== Model: dropsOldest; the page while a record is booked ===== -/
theorem q_set_id {w : QWd} {a : Nat} {x : QCl} (h : w a = some x) : q_set w a x = w := by
  funext b
  by_cases q : b = a
  · subst q; rw [q_set_s, h]
  · rw [q_set_n _ _ q]
theorem low_k {a b k : Int} (hk : 0 < k) : lowN (a * k) (b * k) = lowN a b ∧ lowD (a * k) (b * k) = lowD a b := by
  unfold lowN lowD
  have e : ((Nat.gcd (a * k).natAbs (b * k).natAbs : Nat) : Int) = (Nat.gcd a.natAbs b.natAbs : Nat) * k := by
    rw [Int.natAbs_mul, Int.natAbs_mul, Nat.gcd_mul_right, Int.natCast_mul]
    congr 1
    omega
  rw [e, Int.mul_tdiv_mul_of_pos_left _ _ hk, Int.mul_tdiv_mul_of_pos_left _ _ hk]
  exact ⟨rfl, rfl⟩
theorem low_eq {a b c d : Int} (hb : 0 < b) (hd : 0 < d) (h : a * d = c * b) : lowN a b = lowN c d ∧ lowD a b = lowD c d := by
  have h1 := low_k (a := a) (b := b) hd
  have h2 := low_k (a := c) (b := d) hb
  rw [h, Int.mul_comm b d] at h1
  exact ⟨h1.1.symm.trans h2.1, h1.2.symm.trans h2.2⟩
theorem low_nb (n d : Int) : (lowN n d).natAbs ≤ n.natAbs := by
  unfold lowN
  rw [Int.natAbs_tdiv]
  exact Nat.div_le_self _ _
theorem eU_low {k : Nat} {x y t : Int} : lowN (eU k x y t) (eD k y) = lowN (oN k x y t) (oD k y * 1048576) ∧ lowD (eU k x y t) (eD k y) = lowD (oN k x y t) (oD k y * 1048576) := by
  unfold eU eD oD
  by_cases c : k = 5
  · rw [if_pos c, if_pos c, if_pos c]
    subst c
    have e : oN 5 x y t = (if y < 0 then -x else x) * 1048576 := rfl
    rw [e, (low_k (by omega)).1, (low_k (by omega)).2]
    exact ⟨rfl, rfl⟩
  · rw [if_neg c, if_neg c, if_neg c]
    exact ⟨rfl, rfl⟩
theorem opR_lo {S : QSt} {k t x y : Nat} (hO : sOk S) (hc : Cok k t x y) (hq : ¬ (k = 5 ∧ sVa S y = 0)) : rLo (opR S k t x y) := by
  obtain ⟨c1, c2, c3, c4⟩ := hc
  have o3 := hO.2.2.1
  have rU := eU_rng (k := k) (o3 x (by omega)) (o3 y (by omega)) (o3 t (by omega))
  have rD := eD_rng (o3 y (by omega)) hq
  have e := eU_low (k := k) (x := sVa S x) (y := sVa S y) (t := sVa S t)
  show lowD (oN k (sVa S x) (sVa S y) (sVa S t)) (oD k (sVa S y) * 1048576) ≤ 1048576 ∧ -4398046511104 ≤ lowN (oN k (sVa S x) (sVa S y) (sVa S t)) (oD k (sVa S y) * 1048576) ∧ lowN (oN k (sVa S x) (sVa S y) (sVa S t)) (oD k (sVa S y) * 1048576) ≤ 4398046511104
  rw [← e.1, ← e.2]
  have p := low_p (n := eU k (sVa S x) (sVa S y) (sVa S t)) (d := eD k (sVa S y)) (by omega)
  have b := low_nb (eU k (sVa S x) (sVa S y) (sVa S t)) (eD k (sVa S y))
  omega
section
variable {M : Nat} {rm wy ty ov um us un st sp bk od en : Int32} {lo0 up0 xu xd ld : Int64} {w : QWd} {sz : Nat} {post : QPo} {f : Nat → Int64}
theorem m_drops (hw : w M = some (cMo M rm wy ty lo0 up0 ov um us un xu xd ld st sp bk od en)) (hp : w (M + 1) = some (aLng 7896 f))
    (h : ∀ g : Nat → Int64, (∀ c, g c = if 40 ≤ c ∧ c < 1111 then f (c + 17) else if c = 32 then f 32 - lI 1 else f c) → post none (q_set w (M + 1) (aLng 7896 g))) : T_X8_dropsOldest [.ref M] w sz post := by
  refine Ti_X8_dropsOldest (fun G hG => ?_)
  have eM : ∀ X, q_set w (M + 1) X M = some (cMo M rm wy ty lo0 up0 ov um us un xu xd ld st sp bk od en) := fun X => by rw [q_set_n _ _ (by omega)]; exact hw
  have cl : (iI 32).toNatClampNeg = 32 := by decide
  have i1 : vp_in (iI 32) 7896 = True := iI_inT (by omega) (by omega) (by omega)
  have loop : ∀ (n c : Nat) (g : Nat → Int64), c + n = 1111 → 40 ≤ c → (∀ j, g j = if 40 ≤ j ∧ j < c then f (j + 17) else f j) → G 3 [some (.ref M), some (.int (iI c))] [] (q_set w (M + 1) (aLng 7896 g)) sz 0 := by
    intro n
    induction n with
    | zero =>
      intro c g hc h40 hg
      have c1 : c = 1111 := by omega
      subst c1
      refine hG (fun pc => pc == 3) 60 _ _ _ _ _ _ ?_
      simp only [qe_x, qe_v, q_get, Bool.cond_false, Bool.cond_true, Nat.reduceAdd, Nat.reduceBEq, Nat.reduceLT, Nat.reduceLeDiff, Nat.add_zero, Nat.zero_add, Nat.le_refl, true_and, and_true, List.length_cons, List.length_nil, Option.some.injEq, exists_eq_left', exists_eq_left, exists_eq', reduceCtorEq, dX8_dropsOldest_0, qe_bipush, Int.reduceLE, Int.reduceLT, Int.reduceNeg, dX8_dropsOldest_2, qe_istore_1, q_st1, q_st2, q_clr, Value.category, Nat.reduceEqDiff, reduceIte, dX8_dropsOldest_3, qe_iload_1, qe_il, dX8_dropsOldest_4, dX8_dropsOldest_6, qe_iadd, dX8_dropsOldest_7, qe_sipush, dX8_dropsOldest_10, qe_icmp_ge, q_br, q_tg, Int.reduceNatCast', Int.reduceAdd, Int.reduceToNat, dX8_dropsOldest_13, qe_aload_0, qe_al, dX8_dropsOldest_14, qe_get, qF_8_7, qe_gf, qe_fg, List.getElem?_cons_zero, List.getElem?_cons_succ, dX8_dropsOldest_17, dX8_dropsOldest_18, dX8_dropsOldest_19, dX8_dropsOldest_22, dX8_dropsOldest_23, dX8_dropsOldest_25, dX8_dropsOldest_26, qe_lald, qe_aj, dX8_dropsOldest_27, qe_last, qe_bj, dX8_dropsOldest_28, qe_iinc, qe_ii, dX8_dropsOldest_31, qe_goto, dX8_dropsOldest_34, dX8_dropsOldest_35, dX8_dropsOldest_38, dX8_dropsOldest_40, qe_dup2_l, qe_dup2_ir, dX8_dropsOldest_41, dX8_dropsOldest_42, qe_lconst1, dX8_dropsOldest_43, qe_lsub, dX8_dropsOldest_44, dX8_dropsOldest_45, qe_vret, eM, q_set_s, q_set_ss, cl, i1, iI_add]
      simp (disch := omega) only [iI_le]
      refine ⟨fun _ => h _ (fun j => ?_), fun q => absurd (show (1128 : Int) ≤ (1111 : Nat) + 17 by omega) q⟩
      by_cases q : j = 32
      · subst q
        rw [pk_uLs, hg, if_neg (by omega), if_neg (by omega), if_pos rfl]
      · rw [pk_uLn q, hg]
        by_cases q2 : 40 ≤ j ∧ j < 1111
        · rw [if_pos q2, if_pos q2]
        · rw [if_neg q2, if_neg q2, if_neg q]
    | succ n ih =>
      intro c g hc h40 hg
      refine hG (fun pc => pc == 3) 60 _ _ _ _ _ _ ?_
      simp only [qe_x, qe_v, q_get, Bool.cond_false, Bool.cond_true, Nat.reduceAdd, Nat.reduceBEq, Nat.reduceLT, Nat.reduceLeDiff, Nat.add_zero, Nat.zero_add, Nat.le_refl, true_and, and_true, List.length_cons, List.length_nil, Option.some.injEq, exists_eq_left', exists_eq_left, exists_eq', reduceCtorEq, dX8_dropsOldest_0, qe_bipush, Int.reduceLE, Int.reduceLT, Int.reduceNeg, dX8_dropsOldest_2, qe_istore_1, q_st1, q_st2, q_clr, Value.category, Nat.reduceEqDiff, reduceIte, dX8_dropsOldest_3, qe_iload_1, qe_il, dX8_dropsOldest_4, dX8_dropsOldest_6, qe_iadd, dX8_dropsOldest_7, qe_sipush, dX8_dropsOldest_10, qe_icmp_ge, q_br, q_tg, Int.reduceNatCast', Int.reduceAdd, Int.reduceToNat, dX8_dropsOldest_13, qe_aload_0, qe_al, dX8_dropsOldest_14, qe_get, qF_8_7, qe_gf, qe_fg, List.getElem?_cons_zero, List.getElem?_cons_succ, dX8_dropsOldest_17, dX8_dropsOldest_18, dX8_dropsOldest_19, dX8_dropsOldest_22, dX8_dropsOldest_23, dX8_dropsOldest_25, dX8_dropsOldest_26, qe_lald, qe_aj, dX8_dropsOldest_27, qe_last, qe_bj, dX8_dropsOldest_28, qe_iinc, qe_ii, dX8_dropsOldest_31, qe_goto, dX8_dropsOldest_34, dX8_dropsOldest_35, dX8_dropsOldest_38, dX8_dropsOldest_40, qe_dup2_l, qe_dup2_ir, dX8_dropsOldest_41, dX8_dropsOldest_42, qe_lconst1, dX8_dropsOldest_43, qe_lsub, dX8_dropsOldest_44, dX8_dropsOldest_45, qe_vret, eM, q_set_s, q_set_ss, iI_add]
      rw [show (c : Int) + 17 = ((c + 17 : Nat) : Int) by omega]
      simp (disch := omega) only [iI_le, iI_inN, iI_clN, true_and]
      refine ⟨fun q => absurd q (by omega), fun _ => ih (c + 1) _ (by omega) (by omega) (fun j => ?_)⟩
      have e0 : g (c + 17) = f (c + 17) := by rw [hg, if_neg (by omega)]
      by_cases q : j = c
      · subst q
        rw [pk_uLs, if_pos (by omega), e0]
      · rw [pk_uLn q, hg]
        by_cases q2 : 40 ≤ j ∧ j < c
        · rw [if_pos q2, if_pos (by omega)]
        · rw [if_neg q2, if_neg (by omega)]
  refine hG (fun pc => pc == 3) 60 _ _ _ _ _ _ ?_
  simp only [qe_x, qe_v, q_get, Bool.cond_false, Bool.cond_true, Nat.reduceAdd, Nat.reduceBEq, Nat.reduceLT, Nat.reduceLeDiff, Nat.add_zero, Nat.zero_add, Nat.le_refl, true_and, and_true, List.length_cons, List.length_nil, Option.some.injEq, exists_eq_left', exists_eq_left, exists_eq', reduceCtorEq, dX8_dropsOldest_0, qe_bipush, Int.reduceLE, Int.reduceLT, Int.reduceNeg, dX8_dropsOldest_2, qe_istore_1, q_st1, q_st2, q_clr, Value.category, Nat.reduceEqDiff, reduceIte, dX8_dropsOldest_3, qe_iload_1, qe_il, dX8_dropsOldest_4, dX8_dropsOldest_6, qe_iadd, dX8_dropsOldest_7, qe_sipush, dX8_dropsOldest_10, qe_icmp_ge, q_br, q_tg, Int.reduceNatCast', Int.reduceAdd, Int.reduceToNat, dX8_dropsOldest_13, qe_aload_0, qe_al, dX8_dropsOldest_14, qe_get, qF_8_7, qe_gf, qe_fg, List.getElem?_cons_zero, List.getElem?_cons_succ, dX8_dropsOldest_17, dX8_dropsOldest_18, dX8_dropsOldest_19, dX8_dropsOldest_22, dX8_dropsOldest_23, dX8_dropsOldest_25, dX8_dropsOldest_26, qe_lald, qe_aj, dX8_dropsOldest_27, qe_last, qe_bj, dX8_dropsOldest_28, qe_iinc, qe_ii, dX8_dropsOldest_31, qe_goto, dX8_dropsOldest_34, dX8_dropsOldest_35, dX8_dropsOldest_38, dX8_dropsOldest_40, qe_dup2_l, qe_dup2_ir, dX8_dropsOldest_41, dX8_dropsOldest_42, qe_lconst1, dX8_dropsOldest_43, qe_lsub, dX8_dropsOldest_44, dX8_dropsOldest_45, qe_vret]
  have := loop 1071 40 f (by omega) (by omega) (fun j => by rw [if_neg (by omega)])
  rw [q_set_id hp] at this
  exact this
end
/-- the page while a record is booked: n numbers of it are written, the account is A -/
def bkF (g : Nat → Int64) (m K : Nat) (r : QRe) (n : Nat) (A : Nat → Int64) (c : Nat) : Int64 :=
  if K ≤ c ∧ c < K + n then pgR r (c - K) else if c = 32 then lI ((m : Int) + 1) else if 33 ≤ c ∧ c < 40 then A (c - 33) else g c
def upA (A : Nat → Int64) (z : Nat) (x : Int64) : Nat → Int64 := fun i => if i = z then x else A i
section
variable {g : Nat → Int64} {m K : Nat} {r : QRe} {n : Nat} {A : Nat → Int64} {x : Int64}
theorem bkF_rec (h4 : 40 ≤ K) (hx : x = pgR r n) : vp_updL (bkF g m K r n A) (K + n) x = bkF g m K r (n + 1) A := by
  funext c
  by_cases q : c = K + n
  · subst q
    rw [pk_uLs, hx]
    unfold bkF
    rw [if_pos (by omega), show K + n - K = n by omega]
  · rw [pk_uLn q]
    unfold bkF
    by_cases q2 : K ≤ c ∧ c < K + n
    · rw [if_pos q2, if_pos (by omega)]
    · rw [if_neg q2, if_neg (show ¬ (K ≤ c ∧ c < K + (n + 1)) by omega)]
theorem bkF_acc {c : Nat} (h4 : 40 ≤ K) (hc : 33 ≤ c ∧ c < 40) : vp_updL (bkF g m K r n A) c x = bkF g m K r n (upA A (c - 33) x) := by
  funext j
  by_cases q : j = c
  · subst q
    rw [pk_uLs]
    unfold bkF upA
    rw [if_neg (by omega), if_neg (by omega), if_pos (by omega), if_pos rfl]
  · rw [pk_uLn q]
    unfold bkF upA
    by_cases q2 : K ≤ j ∧ j < K + n
    · rw [if_pos q2, if_pos q2]
    · rw [if_neg q2, if_neg q2]
      by_cases q3 : j = 32
      · rw [if_pos q3, if_pos q3]
      · rw [if_neg q3, if_neg q3]
        by_cases q4 : 33 ≤ j ∧ j < 40
        · rw [if_pos q4, if_pos q4, if_neg (by omega)]
        · rw [if_neg q4, if_neg q4]
theorem bkF_0 (hA : ∀ z, z < 7 → g (33 + z) = A z) : vp_updL g 32 (lI ((m : Int) + 1)) = bkF g m K r 0 A := by
  funext c
  unfold bkF
  rw [if_neg (by omega)]
  by_cases q : c = 32
  · rw [q, pk_uLs, if_pos rfl]
  · rw [pk_uLn q, if_neg q]
    by_cases q2 : 33 ≤ c ∧ c < 40
    · rw [if_pos q2, ← hA (c - 33) (by omega), show 33 + (c - 33) = c by omega]
    · rw [if_neg q2]
theorem bkF_lo {c : Nat} (h4 : 40 ≤ K) (hc : c < 32) : bkF g m K r n A c = g c := by
  unfold bkF
  rw [if_neg (by omega), if_neg (by omega), if_neg (by omega)]
theorem bkF_ac {c : Nat} (h4 : 40 ≤ K) (hc : 33 ≤ c ∧ c < 40) : bkF g m K r n A c = A (c - 33) := by
  unfold bkF
  rw [if_neg (by omega), if_neg (by omega), if_pos hc]
theorem bkF_r {j : Nat} (hj : j < n) : bkF g m K r n A (K + j) = pgR r j := by
  unfold bkF
  rw [if_pos (by omega), show K + j - K = j by omega]
theorem bkF_hi {c : Nat} (hc : 40 ≤ c) (h : K + n ≤ c) : bkF g m K r n A c = g c := by
  unfold bkF
  rw [if_neg (by omega), if_neg (by omega), if_neg (by omega)]
end
theorem pgH_s {S : QSt} {E E' : QLe} {j : Nat} (hj : j < 32) : pgH S E j = pgH S E' j := by
  unfold pgH
  repeat' split
  all_goals first | rfl | omega
theorem bkF_blk {g : Nat → Int64} {K : Nat} {r : QRe} {A Su : Nat → Int64} {S : QSt} {E : QLe} (hb : blk g 0 S E) (hm : eSz E < 64) (hK : K = 40 + 17 * eSz E) (hA : ∀ z, z < 7 → A z = Su z) : blk (bkF g (eSz E) K r 17 A) 0 S (Su, eSz E + 1, fun i => if i = eSz E then r else eRe E i) := by
  refine ⟨fun c hc => ?_, fun i hi j hj => ?_⟩
  · rw [Nat.zero_add]
    by_cases c1 : c < 32
    · rw [bkF_lo (by omega) c1, hb.h (by omega)]
      exact pgH_s c1
    · by_cases c2 : c = 32
      · subst c2
        unfold bkF
        rw [if_neg (by omega), if_pos rfl]
        rfl
      · rw [bkF_ac (by omega) (by omega), hA _ (by omega)]
        obtain ⟨z, rfl⟩ : ∃ z, c = 33 + z := ⟨c - 33, by omega⟩
        rw [pgH_a (by omega), show 33 + z - 33 = z by omega]
  · rw [Nat.zero_add]
    show _ = pgR (if i = eSz E then r else eRe E i) j
    change i < eSz E + 1 at hi
    by_cases c : i = eSz E
    · rw [if_pos c, c, ← hK, bkF_r hj]
    · rw [if_neg c, ← hb.r (by omega) hj]
      unfold bkF
      rw [if_neg (by omega), if_neg (by omega), if_neg (by omega)]
theorem bI_z (v : Bool) : (iI (bI v) = iI 0) = (v = false) := by
  cases v
  · exact propext ⟨fun _ => rfl, fun _ => rfl⟩
  · exact propext ⟨fun q => absurd q i10, fun q => absurd q (by decide)⟩
theorem lSum_q {s : Nat → Int64} {r : QRe} (hk : rK r = 5) : lSum s r 0 = s 0 ∧ lSum s r 1 = s 1 ∧ lSum s r 2 = s 2 ∧ lSum s r 3 = s 3 ∧ lSum s r 4 = s 4 + lI (bI (rOv r)) ∧ lSum s r 5 = s 5 + lI (bI (rAb r)) ∧ lSum s r 6 = s 6 + lI 1 := by
  unfold lSum
  refine ⟨?_, ?_, ?_, ?_, ?_, ?_, ?_⟩
  all_goals first
    | rfl
    | (show (if rK r = 5 then _ else _) = _; rw [if_pos hk]; done)
    | (show (if rK r = 5 then _ else _) = _; rw [if_pos hk]; rfl)
theorem lSum_n {s : Nat → Int64} {r : QRe} (hk : ¬ rK r = 5) : lSum s r 0 = s 0 + lI 1 ∧ lSum s r 1 = s 1 + lI (rOu r * rD r * 1024 - rN r) ∧ lSum s r 2 = s 2 + lI (rAv r * 4 * rD r - rN r) ∧ lSum s r 3 = s 3 + lI (rSc r) ∧ lSum s r 4 = s 4 + lI (bI (rOv r)) ∧ lSum s r 5 = s 5 + lI (bI (rAb r)) ∧ lSum s r 6 = s 6 := by
  unfold lSum
  refine ⟨?_, ?_, ?_, ?_, ?_, ?_, ?_⟩
  all_goals first
    | rfl
    | (show (if rK r = 5 then _ else _) = _; rw [if_neg hk]; done)
    | (show (if rK r = 5 then _ else _) = _; rw [if_neg hk]; rfl)
