/-! ===== Model: ups, mean, variance of a record ===== -/
theorem low_n {n d : Int} : (Nat.gcd n.natAbs d.natAbs : Int) * lowN n d = n := Int.mul_tdiv_cancel' (Int.ofNat_dvd_left.mpr (Nat.gcd_dvd_left ..))
theorem low_d {n d : Int} : (Nat.gcd n.natAbs d.natAbs : Int) * lowD n d = d := Int.mul_tdiv_cancel' (Int.ofNat_dvd_left.mpr (Nat.gcd_dvd_right ..))
theorem low_x {n d : Int} : lowN n d * d = n * lowD n d := by
  have h1 := low_n (n := n) (d := d)
  have h2 := low_d (n := n) (d := d)
  generalize (Nat.gcd n.natAbs d.natAbs : Int) = g at h1 h2
  generalize lowN n d = a at h1 ⊢
  generalize lowD n d = b at h2 ⊢
  rw [← h1, ← h2, ← Int.mul_assoc, Int.mul_comm a]
theorem low_p {n d : Int} (hd : 0 < d) : 1 ≤ lowD n d ∧ lowD n d ≤ d := by
  have h2 := low_d (n := n) (d := d)
  obtain ⟨r1, r2⟩ := low_rng (n := n) hd
  generalize Nat.gcd n.natAbs d.natAbs = g at h2 r1
  have p : 0 < lowD n d := by
    rcases Int.lt_or_le 0 (lowD n d) with q | q
    · exact q
    · have := Int.mul_nonneg (show (0 : Int) ≤ g by omega) (show 0 ≤ -lowD n d by omega)
      rw [Int.mul_neg] at this
      omega
  refine ⟨by omega, ?_⟩
  have := Int.mul_le_mul_of_nonneg_right (show (1 : Int) ≤ g by omega) (show 0 ≤ lowD n d by omega)
  omega
/-- small lowest terms -/
def rLo (r : QRe) : Prop := lowD (rN r) (rD r * 1048576) ≤ 1048576 ∧ -4398046511104 ≤ lowN (rN r) (rD r * 1048576) ∧ lowN (rN r) (rD r * 1048576) ≤ 4398046511104
theorem ceil_eq {a b : Int} (hb : 0 < b) : -(-a / b) = (a + b - 1) / b := by
  have e := Int.emod_add_mul_ediv (-a) b
  have m0 := Int.emod_nonneg (-a) (show b ≠ 0 by omega)
  have m1 := Int.emod_lt_of_pos (-a) hb
  rw [Int.mul_comm] at e
  exact (div_uq (r := b - 1 - (-a) % b) hb (by rw [Int.neg_mul]; omega) (by omega) (by omega)).symm
theorem low_sfr {n d : Int} : sfr (lowN n (d * 1048576) * 1024) (lowD n (d * 1048576)) n d := by
  show lowN n (d * 1048576) * 1024 * (d * 1024) = n * lowD n (d * 1048576)
  have := low_x (n := n) (d := d * 1048576)
  rw [← this, Int.mul_assoc]
  congr 1
  omega
theorem ups_eq {u v n d lw up : Int} {bits : Nat} (hs : sfr u v n d) (hv : 0 < v) (hd : 0 < d) (hg : lw < up) : -(-((u - lw * v) * 2 ^ bits) / ((up - lw) * v)) = nds n d lw up bits := by
  have hD : 0 < d * 1024 := by omega
  have s1 := sfr_sub (l := lw) hs
  have gp : 0 < (up - lw) * (d * 1024) := Int.mul_pos (by omega) hD
  have e1 : -((u - lw * v) * 2 ^ bits) / ((up - lw) * v) = -((n - lw * (d * 1024)) * 2 ^ bits) / ((up - lw) * (d * 1024)) := by
    rw [← Int.mul_ediv_mul_of_pos_left _ ((up - lw) * v) hD, ← Int.mul_ediv_mul_of_pos_left _ ((up - lw) * (d * 1024)) hv]
    congr 1
    · rw [Int.neg_mul, Int.neg_mul, Int.mul_assoc (u - lw * v), Int.mul_comm (2 ^ bits), ← Int.mul_assoc, s1, Int.mul_assoc, Int.mul_comm v, ← Int.mul_assoc]
    · rw [Int.mul_assoc, Int.mul_comm v, ← Int.mul_assoc]
  unfold nds
  rw [if_neg (by omega), e1, ceil_eq gp]
section
variable {M K : Nat} {r : QRe} {rm wy ty ov um us un st sp bk od en : Int32} {lo0 up0 xu xd ld : Int64} {w : QWd} {sz : Nat} {post : QPo} {f : Nat → Int64}
theorem m_upsAt (hw : w M = some (cMo M rm wy ty lo0 up0 ov um us un xu xd ld st sp bk od en)) (hp : w (M + 1) = some (aLng 7896 f)) (hK : K + 17 ≤ 1128) (hr : ∀ j, j < 17 → f (K + j) = pgR r j) (ok : rOk r) (hlo : rLo r)
    (h : post (some (.long (lI (if rMo r = 4 ∧ ¬ rLw r = rUp r then nds (rN r) (rD r) (rLw r) (rUp r) (rBi r) else -2000000009)))) w) : T_X8_upsAt [.ref M, .int (iI K)] w sz post := by
  obtain ⟨o1, o2, o3, o4, o5, o6, o7, o8, o9, o10, o11, o12⟩ := id ok
  obtain ⟨l1, l2, l3⟩ := id hlo
  have hd1 : 1 ≤ rD r := o9.2.2.1
  have h8 : f (K + 8) = lI (lowN (rN r) (rD r * 1048576)) := hr 8 (by omega)
  have h9 : f (K + 9) = lI (lowD (rN r) (rD r * 1048576)) := hr 9 (by omega)
  have h10 : f (K + 10) = lI (rLw r) := hr 10 (by omega)
  have h11 : f (K + 11) = lI (rUp r) := hr 11 (by omega)
  have h12 : f (K + 12) = lI (rMo r : Int) := hr 12 (by omega)
  have h13 : f (K + 13) = lI (rBi r : Int) := hr 13 (by omega)
  have n8 : (K : Int) + 8 = ((K + 8 : Nat) : Int) := by omega
  have n9 : (K : Int) + 9 = ((K + 9 : Nat) : Int) := by omega
  have n10 : (K : Int) + 10 = ((K + 10 : Nat) : Int) := by omega
  have n11 : (K : Int) + 11 = ((K + 11 : Nat) : Int) := by omega
  have n12 : (K : Int) + 12 = ((K + 12 : Nat) : Int) := by omega
  have n13 : (K : Int) + 13 = ((K + 13 : Nat) : Int) := by omega
  have p1 := low_p (n := rN r) (d := rD r * 1048576) (by omega)
  have hs : sfr (lowN (rN r) (rD r * 1048576) * 1024) (lowD (rN r) (rD r * 1048576)) (rN r) (rD r) := low_sfr
  have hin : rLw r ≠ rUp r → rLw r * (rD r * 1024) ≤ rN r ∧ rN r ≤ rUp r * (rD r * 1024) := by
    rw [o11, o12]
    exact n_in hd1
  generalize lowN (rN r) (rD r * 1048576) = U at *
  generalize lowD (rN r) (rD r * 1048576) = V at *
  have mV := mul_bd (x := rLw r) (y := V) (A := 1048576) (B := 1048576) (by omega) (by omega) (by omega) (by omega)
  have mG := mul_bd (x := rUp r - rLw r) (y := V) (A := 2097152) (B := 1048576) (by omega) (by omega) (by omega) (by omega)
  have pw := pw_le o4
  have pp := pw_pos (rBi r)
  have mP := mul_bd (x := U * 1024 - rLw r * V) (y := 2 ^ rBi r) (A := 4504699138998272) (B := 256) (by omega) (by omega) (by omega) (by omega)
  refine Ti_X8_upsAt (fun G hG => hG (fun _ => false) 80 _ _ _ _ _ _ ?_)
  simp only [qe_x, qe_v, q_get, Bool.cond_false, Bool.cond_true, Nat.reduceAdd, Nat.reduceBEq, Nat.reduceLT, Nat.reduceLeDiff, Nat.add_zero, Nat.zero_add, Nat.le_refl, true_and, and_true, List.length_cons, List.length_nil, Option.some.injEq, exists_eq_left', exists_eq_left, exists_eq', reduceCtorEq, dX8_upsAt_0, qe_aload_0, qe_al, dX8_upsAt_1, qe_get, qF_8_7, qe_gf, qe_fg, List.getElem?_cons_zero, List.getElem?_cons_succ, dX8_upsAt_4, qe_iload_1, qe_il, dX8_upsAt_5, qe_bipush, Int.reduceLE, Int.reduceLT, Int.reduceNeg, dX8_upsAt_7, qe_iadd, dX8_upsAt_8, qe_lald, qe_aj, dX8_upsAt_9, dX8_upsAt_10, dX8_upsAt_13, dX8_upsAt_14, dX8_upsAt_16, dX8_upsAt_17, dX8_upsAt_18, qe_lsub, dX8_upsAt_19, qe_lstore_2, q_st1, q_st2, q_clr, Value.category, Nat.reduceEqDiff, reduceIte, dX8_upsAt_20, dX8_upsAt_21, dX8_upsAt_24, dX8_upsAt_25, dX8_upsAt_27, dX8_upsAt_28, dX8_upsAt_29, qe_ldc2, qe_pk, qDi_8_41, dX8_upsAt_32, qe_lcmp, iI_cmp_lt, iI_cmp_le, iI_cmp_ge, iI_cmp_gt, iI_cmp_eq, dX8_upsAt_33, qe_if_ne, q_br, q_tg, Int.reduceNatCast', Int.reduceAdd, Int.reduceToNat, dX8_upsAt_36, qe_lload_2, qe_ll, dX8_upsAt_37, qe_lconst0, dX8_upsAt_38, dX8_upsAt_39, dX8_upsAt_42, qDi_8_267, dX8_upsAt_45, qe_lret, dX8_upsAt_46, dX8_upsAt_47, dX8_upsAt_48, dX8_upsAt_51, dX8_upsAt_52, dX8_upsAt_54, dX8_upsAt_55, dX8_upsAt_56, qe_lmul, dX8_upsAt_57, qe_lstore, dX8_upsAt_59, dX8_upsAt_60, dX8_upsAt_63, dX8_upsAt_64, dX8_upsAt_66, dX8_upsAt_67, dX8_upsAt_68, dX8_upsAt_70, qe_lshl, dX8_upsAt_71, dX8_upsAt_72, dX8_upsAt_75, dX8_upsAt_76, dX8_upsAt_78, dX8_upsAt_79, dX8_upsAt_80, dX8_upsAt_81, dX8_upsAt_84, dX8_upsAt_85, dX8_upsAt_87, dX8_upsAt_88, dX8_upsAt_89, dX8_upsAt_90, dX8_upsAt_91, dX8_upsAt_93, qe_lload, dX8_upsAt_95, dX8_upsAt_96, dX8_upsAt_99, dX8_upsAt_100, dX8_upsAt_102, dX8_upsAt_103, dX8_upsAt_104, qe_l2i, dX8_upsAt_105, dX8_upsAt_106, qe_lneg, dX8_upsAt_107, dX8_upsAt_109, qe_invs, ms_X8_upsAt_86, qe_c0, qe_c1, qe_c2, qe_c3, qe_c8, qe_c9, qe_cs, qe_cv, qe_tk, qe_tk0, qe_cat0, qe_cati, qe_catl, qe_catr, qe_catn, qe_ob, qe_cpy, qe_tl, qe_tl0, dX8_upsAt_112, dX8_upsAt_113, hw, hp, iI_add, n8, n9, n10, n11, n12, n13]
  simp (disch := omega) only [iI_inN, iI_clN, true_and, h8, h9, h10, h11, h12, h13, lI_sub, lI_mul, lI_shl, lI_shl2, lI_i, lI_neg, lI_eq, Int.toNat_natCast, Int.reduceToNat, Int.reducePow]
  refine ⟨fun c => ?_, fun c => ⟨fun c2 => ?_, fun c2 => ?_⟩⟩
  · rw [if_neg (by omega)] at h
    exact h
  · have hne : rLw r ≠ rUp r := by omega
    obtain ⟨i1, i2⟩ := hin hne
    have hg : rLw r < rUp r := by
      have := Int.le_of_mul_le_mul_right (Int.le_trans i1 i2) (show 0 < rD r * 1024 by omega)
      omega
    have gV : 0 < (rUp r - rLw r) * V := Int.mul_pos (by omega) (by omega)
    refine m_floor ⟨by omega, by omega⟩ ⟨gV, by omega⟩ ?_
    simp only [qe_x, qe_v, q_get, Bool.cond_false, Bool.cond_true, Nat.reduceAdd, Nat.reduceBEq, Nat.reduceLT, Nat.reduceLeDiff, Nat.add_zero, Nat.zero_add, Nat.le_refl, true_and, and_true, List.length_cons, List.length_nil, Option.some.injEq, exists_eq_left', exists_eq_left, exists_eq', reduceCtorEq, dX8_upsAt_0, qe_aload_0, qe_al, dX8_upsAt_1, qe_get, qF_8_7, qe_gf, qe_fg, List.getElem?_cons_zero, List.getElem?_cons_succ, dX8_upsAt_4, qe_iload_1, qe_il, dX8_upsAt_5, qe_bipush, Int.reduceLE, Int.reduceLT, Int.reduceNeg, dX8_upsAt_7, qe_iadd, dX8_upsAt_8, qe_lald, qe_aj, dX8_upsAt_9, dX8_upsAt_10, dX8_upsAt_13, dX8_upsAt_14, dX8_upsAt_16, dX8_upsAt_17, dX8_upsAt_18, qe_lsub, dX8_upsAt_19, qe_lstore_2, q_st1, q_st2, q_clr, Value.category, Nat.reduceEqDiff, reduceIte, dX8_upsAt_20, dX8_upsAt_21, dX8_upsAt_24, dX8_upsAt_25, dX8_upsAt_27, dX8_upsAt_28, dX8_upsAt_29, qe_ldc2, qe_pk, qDi_8_41, dX8_upsAt_32, qe_lcmp, iI_cmp_lt, iI_cmp_le, iI_cmp_ge, iI_cmp_gt, iI_cmp_eq, dX8_upsAt_33, qe_if_ne, q_br, q_tg, Int.reduceNatCast', Int.reduceAdd, Int.reduceToNat, dX8_upsAt_36, qe_lload_2, qe_ll, dX8_upsAt_37, qe_lconst0, dX8_upsAt_38, dX8_upsAt_39, dX8_upsAt_42, qDi_8_267, dX8_upsAt_45, qe_lret, dX8_upsAt_46, dX8_upsAt_47, dX8_upsAt_48, dX8_upsAt_51, dX8_upsAt_52, dX8_upsAt_54, dX8_upsAt_55, dX8_upsAt_56, qe_lmul, dX8_upsAt_57, qe_lstore, dX8_upsAt_59, dX8_upsAt_60, dX8_upsAt_63, dX8_upsAt_64, dX8_upsAt_66, dX8_upsAt_67, dX8_upsAt_68, dX8_upsAt_70, qe_lshl, dX8_upsAt_71, dX8_upsAt_72, dX8_upsAt_75, dX8_upsAt_76, dX8_upsAt_78, dX8_upsAt_79, dX8_upsAt_80, dX8_upsAt_81, dX8_upsAt_84, dX8_upsAt_85, dX8_upsAt_87, dX8_upsAt_88, dX8_upsAt_89, dX8_upsAt_90, dX8_upsAt_91, dX8_upsAt_93, qe_lload, dX8_upsAt_95, dX8_upsAt_96, dX8_upsAt_99, dX8_upsAt_100, dX8_upsAt_102, dX8_upsAt_103, dX8_upsAt_104, qe_l2i, dX8_upsAt_105, dX8_upsAt_106, qe_lneg, dX8_upsAt_107, dX8_upsAt_109, qe_invs, ms_X8_upsAt_86, qe_c0, qe_c1, qe_c2, qe_c3, qe_c8, qe_c9, qe_cs, qe_cv, qe_tk, qe_tk0, qe_cat0, qe_cati, qe_catl, qe_catr, qe_catn, qe_ob, qe_cpy, qe_tl, qe_tl0, dX8_upsAt_112, dX8_upsAt_113, lI_neg]
    rw [ups_eq hs (by omega) (by omega) hg]
    rw [if_pos ⟨by omega, hne⟩] at h
    exact h
  · rw [if_neg (by omega)] at h
    exact h
theorem m_meanAt (hw : w M = some (cMo M rm wy ty lo0 up0 ov um us un xu xd ld st sp bk od en)) (hp : w (M + 1) = some (aLng 7896 f)) (hK : K + 17 ≤ 1128) (hr : ∀ j, j < 17 → f (K + j) = pgR r j) (ok : rOk r) (hlo : rLo r)
    (h : post (some (.long (lI (rAv r)))) w) : T_X8_meanAt [.ref M, .int (iI K)] w sz post := by
  obtain ⟨o1, o2, o3, o4, o5, o6, o7, o8, o9, o10, o11, o12⟩ := id ok
  have hd1 : 1 ≤ rD r := o9.2.2.1
  have h10 : f (K + 10) = lI (rLw r) := hr 10 (by omega)
  have h11 : f (K + 11) = lI (rUp r) := hr 11 (by omega)
  have h13 : f (K + 13) = lI (rBi r : Int) := hr 13 (by omega)
  have h15 : f (K + 15) = lI (rOu r) := hr 15 (by omega)
  have n10 : (K : Int) + 10 = ((K + 10 : Nat) : Int) := by omega
  have n11 : (K : Int) + 11 = ((K + 11 : Nat) : Int) := by omega
  have n13 : (K : Int) + 13 = ((K + 13 : Nat) : Int) := by omega
  have n15 : (K : Int) + 15 = ((K + 15 : Nat) : Int) := by omega
  have pw := pw_le o4
  refine Ti_X8_meanAt (fun G hG => hG (fun _ => false) 80 _ _ _ _ _ _ ?_)
  simp only [qe_x, qe_v, q_get, Bool.cond_false, Bool.cond_true, Nat.reduceAdd, Nat.reduceBEq, Nat.reduceLT, Nat.reduceLeDiff, Nat.add_zero, Nat.zero_add, Nat.le_refl, true_and, and_true, List.length_cons, List.length_nil, Option.some.injEq, exists_eq_left', exists_eq_left, exists_eq', reduceCtorEq, dX8_meanAt_0, qe_aload_0, qe_al, dX8_meanAt_1, qe_iload_1, qe_il, dX8_meanAt_2, qe_invv, ms_X8_meanAt_269, qe_c0, qe_c1, qe_c2, qe_c3, qe_c8, qe_c9, qe_cs, qe_cv, qe_tk, qe_tk0, qe_cat0, qe_cati, qe_catl, qe_catr, qe_catn, qe_ob, qe_cpy, qe_tl, qe_tl0, dX8_meanAt_5, qe_lstore_2, q_st1, q_st2, q_clr, Value.category, Nat.reduceEqDiff, reduceIte, dX8_meanAt_6, dX8_meanAt_7, qe_get, qF_8_7, qe_gf, qe_fg, List.getElem?_cons_zero, List.getElem?_cons_succ, dX8_meanAt_10, dX8_meanAt_11, qe_bipush, Int.reduceLE, Int.reduceLT, Int.reduceNeg, dX8_meanAt_13, qe_iadd, dX8_meanAt_14, qe_lald, qe_aj, dX8_meanAt_15, dX8_meanAt_16, dX8_meanAt_19, dX8_meanAt_20, dX8_meanAt_22, dX8_meanAt_23, dX8_meanAt_24, qe_lsub, dX8_meanAt_25, qe_lstore, dX8_meanAt_27, qe_lload_2, qe_ll, dX8_meanAt_28, qe_ldc2, qe_pk, qDi_8_267, dX8_meanAt_31, qe_lcmp, iI_cmp_lt, iI_cmp_le, iI_cmp_ge, iI_cmp_gt, iI_cmp_eq, dX8_meanAt_32, qe_if_ne, q_br, q_tg, Int.reduceNatCast', Int.reduceAdd, Int.reduceToNat, dX8_meanAt_35, dX8_meanAt_36, dX8_meanAt_39, dX8_meanAt_40, dX8_meanAt_42, dX8_meanAt_43, dX8_meanAt_44, dX8_meanAt_46, qe_lshl, dX8_meanAt_47, qe_goto, dX8_meanAt_50, dX8_meanAt_51, dX8_meanAt_54, dX8_meanAt_55, dX8_meanAt_57, dX8_meanAt_58, dX8_meanAt_59, dX8_meanAt_61, dX8_meanAt_62, dX8_meanAt_63, qe_lload, dX8_meanAt_65, qe_lmul, dX8_meanAt_66, dX8_meanAt_68, dX8_meanAt_69, dX8_meanAt_72, dX8_meanAt_73, dX8_meanAt_75, dX8_meanAt_76, dX8_meanAt_77, qe_l2i, dX8_meanAt_78, qe_isub, dX8_meanAt_79, dX8_meanAt_80, qe_ladd, dX8_meanAt_81, qe_lret]
  refine ⟨⟨_, hw⟩, m_upsAt hw hp hK hr ok hlo ?_⟩
  simp only [qe_x, qe_v, q_get, Bool.cond_false, Bool.cond_true, Nat.reduceAdd, Nat.reduceBEq, Nat.reduceLT, Nat.reduceLeDiff, Nat.add_zero, Nat.zero_add, Nat.le_refl, true_and, and_true, List.length_cons, List.length_nil, Option.some.injEq, exists_eq_left', exists_eq_left, exists_eq', reduceCtorEq, dX8_meanAt_0, qe_aload_0, qe_al, dX8_meanAt_1, qe_iload_1, qe_il, dX8_meanAt_2, qe_invv, ms_X8_meanAt_269, qe_c0, qe_c1, qe_c2, qe_c3, qe_c8, qe_c9, qe_cs, qe_cv, qe_tk, qe_tk0, qe_cat0, qe_cati, qe_catl, qe_catr, qe_catn, qe_ob, qe_cpy, qe_tl, qe_tl0, dX8_meanAt_5, qe_lstore_2, q_st1, q_st2, q_clr, Value.category, Nat.reduceEqDiff, reduceIte, dX8_meanAt_6, dX8_meanAt_7, qe_get, qF_8_7, qe_gf, qe_fg, List.getElem?_cons_zero, List.getElem?_cons_succ, dX8_meanAt_10, dX8_meanAt_11, qe_bipush, Int.reduceLE, Int.reduceLT, Int.reduceNeg, dX8_meanAt_13, qe_iadd, dX8_meanAt_14, qe_lald, qe_aj, dX8_meanAt_15, dX8_meanAt_16, dX8_meanAt_19, dX8_meanAt_20, dX8_meanAt_22, dX8_meanAt_23, dX8_meanAt_24, qe_lsub, dX8_meanAt_25, qe_lstore, dX8_meanAt_27, qe_lload_2, qe_ll, dX8_meanAt_28, qe_ldc2, qe_pk, qDi_8_267, dX8_meanAt_31, qe_lcmp, iI_cmp_lt, iI_cmp_le, iI_cmp_ge, iI_cmp_gt, iI_cmp_eq, dX8_meanAt_32, qe_if_ne, q_br, q_tg, Int.reduceNatCast', Int.reduceAdd, Int.reduceToNat, dX8_meanAt_35, dX8_meanAt_36, dX8_meanAt_39, dX8_meanAt_40, dX8_meanAt_42, dX8_meanAt_43, dX8_meanAt_44, dX8_meanAt_46, qe_lshl, dX8_meanAt_47, qe_goto, dX8_meanAt_50, dX8_meanAt_51, dX8_meanAt_54, dX8_meanAt_55, dX8_meanAt_57, dX8_meanAt_58, dX8_meanAt_59, dX8_meanAt_61, dX8_meanAt_62, dX8_meanAt_63, qe_lload, dX8_meanAt_65, qe_lmul, dX8_meanAt_66, dX8_meanAt_68, dX8_meanAt_69, dX8_meanAt_72, dX8_meanAt_73, dX8_meanAt_75, dX8_meanAt_76, dX8_meanAt_77, qe_l2i, dX8_meanAt_78, qe_isub, dX8_meanAt_79, dX8_meanAt_80, qe_ladd, dX8_meanAt_81, qe_lret, hw, hp, iI_add, n10, n11, n13, n15]
  unfold rAv nav at h
  by_cases c : rMo r = 4 ∧ ¬ rLw r = rUp r
  · have hin : rLw r * (rD r * 1024) ≤ rN r ∧ rN r ≤ rUp r * (rD r * 1024) := by
      have := n_in (p := (rF r).1) (lo := (rF r).2.1) (hi := (rF r).2.2) (n := rN r) (d := rD r) hd1
      rw [← o11, ← o12] at this
      exact this c.2
    have nd := nds_rng (bits := rBi r) hd1 hin.1 hin.2
    rw [if_pos (by omega)] at h
    rw [if_pos c]
    generalize nds (rN r) (rD r) (rLw r) (rUp r) (rBi r) = N at *
    have es : ((8 : Int) - (rBi r : Int)).toNat = 8 - rBi r := by omega
    simp (disch := omega) only [iI_inN, iI_clN, true_and, h10, h11, h13, h15, lI_sub, lI_mul, lI_add, lI_shl, lI_shl2, lI_i, iI_sub, lI_eq, es, Int.reduceToNat, Int.reducePow]
    have e2 : rLw r * 256 + N * (rUp r - rLw r) * 2 ^ (8 - rBi r) = (rLw r * 2 ^ rBi r + N * (rUp r - rLw r)) * 2 ^ (8 - rBi r) := by
      rw [Int.add_mul, Int.mul_assoc (rLw r), ← Int.pow_add, show rBi r + (8 - rBi r) = 8 by omega]
      rfl
    rw [← e2] at h
    exact ⟨fun _ => h, fun q => absurd (show ¬ N = -2000000009 by omega) q⟩
  · rw [if_neg (by omega)] at h
    rw [if_neg c]
    simp (disch := omega) only [iI_inN, iI_clN, true_and, h10, h11, h13, h15, lI_sub, lI_mul, lI_add, lI_shl, lI_shl2, lI_i, iI_sub, lI_eq, Int.reduceToNat, Int.reducePow, not_true]
    exact ⟨fun q => absurd q (by first | exact fun z => z | exact fun z => z rfl), fun _ => h⟩
theorem m_varAt (hw : w M = some (cMo M rm wy ty lo0 up0 ov um us un xu xd ld st sp bk od en)) (hp : w (M + 1) = some (aLng 7896 f)) (hK : K + 17 ≤ 1128) (hr : ∀ j, j < 17 → f (K + j) = pgR r j) (ok : rOk r) (hlo : rLo r)
    (h : post (some (.long (lI (rSc r)))) w) : T_X8_varianceAt [.ref M, .int (iI K)] w sz post := by
  obtain ⟨o1, o2, o3, o4, o5, o6, o7, o8, o9, o10, o11, o12⟩ := id ok
  have hd1 : 1 ≤ rD r := o9.2.2.1
  have h10 : f (K + 10) = lI (rLw r) := hr 10 (by omega)
  have h11 : f (K + 11) = lI (rUp r) := hr 11 (by omega)
  have h13 : f (K + 13) = lI (rBi r : Int) := hr 13 (by omega)
  have n10 : (K : Int) + 10 = ((K + 10 : Nat) : Int) := by omega
  have n11 : (K : Int) + 11 = ((K + 11 : Nat) : Int) := by omega
  have n13 : (K : Int) + 13 = ((K + 13 : Nat) : Int) := by omega
  have pw := pw_le o4
  refine Ti_X8_varianceAt (fun G hG => hG (fun _ => false) 80 _ _ _ _ _ _ ?_)
  simp only [qe_x, qe_v, q_get, Bool.cond_false, Bool.cond_true, Nat.reduceAdd, Nat.reduceBEq, Nat.reduceLT, Nat.reduceLeDiff, Nat.add_zero, Nat.zero_add, Nat.le_refl, true_and, and_true, List.length_cons, List.length_nil, Option.some.injEq, exists_eq_left', exists_eq_left, exists_eq', reduceCtorEq, dX8_varianceAt_0, qe_aload_0, qe_al, dX8_varianceAt_1, qe_iload_1, qe_il, dX8_varianceAt_2, qe_invv, ms_X8_varianceAt_269, qe_c0, qe_c1, qe_c2, qe_c3, qe_c8, qe_c9, qe_cs, qe_cv, qe_tk, qe_tk0, qe_cat0, qe_cati, qe_catl, qe_catr, qe_catn, qe_ob, qe_cpy, qe_tl, qe_tl0, dX8_varianceAt_5, qe_lstore_2, q_st1, q_st2, q_clr, Value.category, Nat.reduceEqDiff, reduceIte, dX8_varianceAt_6, dX8_varianceAt_7, qe_get, qF_8_7, qe_gf, qe_fg, List.getElem?_cons_zero, List.getElem?_cons_succ, dX8_varianceAt_10, dX8_varianceAt_11, qe_bipush, Int.reduceLE, Int.reduceLT, Int.reduceNeg, dX8_varianceAt_13, qe_iadd, dX8_varianceAt_14, qe_lald, qe_aj, dX8_varianceAt_15, dX8_varianceAt_16, dX8_varianceAt_19, dX8_varianceAt_20, dX8_varianceAt_22, dX8_varianceAt_23, dX8_varianceAt_24, qe_lsub, dX8_varianceAt_25, qe_lstore, dX8_varianceAt_27, dX8_varianceAt_28, dX8_varianceAt_31, dX8_varianceAt_32, dX8_varianceAt_34, dX8_varianceAt_35, dX8_varianceAt_36, qe_l2i, dX8_varianceAt_37, qe_istore, dX8_varianceAt_39, qe_lload_2, qe_ll, dX8_varianceAt_40, qe_ldc2, qe_pk, qDi_8_267, dX8_varianceAt_43, qe_lcmp, iI_cmp_lt, iI_cmp_le, iI_cmp_ge, iI_cmp_gt, iI_cmp_eq, dX8_varianceAt_44, qe_if_ne, q_br, q_tg, Int.reduceNatCast', Int.reduceAdd, Int.reduceToNat, dX8_varianceAt_47, qe_lconst0, dX8_varianceAt_48, qe_goto, dX8_varianceAt_51, dX8_varianceAt_52, qe_lconst1, dX8_varianceAt_53, qe_iload, dX8_varianceAt_55, qe_lshl, dX8_varianceAt_56, dX8_varianceAt_57, dX8_varianceAt_58, qe_lmul, dX8_varianceAt_59, qe_lload, dX8_varianceAt_61, dX8_varianceAt_62, dX8_varianceAt_64, dX8_varianceAt_65, dX8_varianceAt_67, qe_iconst, dX8_varianceAt_68, dX8_varianceAt_70, qe_imul, dX8_varianceAt_71, qe_isub, dX8_varianceAt_72, dX8_varianceAt_73, qe_lret]
  refine ⟨⟨_, hw⟩, m_upsAt hw hp hK hr ok hlo ?_⟩
  simp only [qe_x, qe_v, q_get, Bool.cond_false, Bool.cond_true, Nat.reduceAdd, Nat.reduceBEq, Nat.reduceLT, Nat.reduceLeDiff, Nat.add_zero, Nat.zero_add, Nat.le_refl, true_and, and_true, List.length_cons, List.length_nil, Option.some.injEq, exists_eq_left', exists_eq_left, exists_eq', reduceCtorEq, dX8_varianceAt_0, qe_aload_0, qe_al, dX8_varianceAt_1, qe_iload_1, qe_il, dX8_varianceAt_2, qe_invv, ms_X8_varianceAt_269, qe_c0, qe_c1, qe_c2, qe_c3, qe_c8, qe_c9, qe_cs, qe_cv, qe_tk, qe_tk0, qe_cat0, qe_cati, qe_catl, qe_catr, qe_catn, qe_ob, qe_cpy, qe_tl, qe_tl0, dX8_varianceAt_5, qe_lstore_2, q_st1, q_st2, q_clr, Value.category, Nat.reduceEqDiff, reduceIte, dX8_varianceAt_6, dX8_varianceAt_7, qe_get, qF_8_7, qe_gf, qe_fg, List.getElem?_cons_zero, List.getElem?_cons_succ, dX8_varianceAt_10, dX8_varianceAt_11, qe_bipush, Int.reduceLE, Int.reduceLT, Int.reduceNeg, dX8_varianceAt_13, qe_iadd, dX8_varianceAt_14, qe_lald, qe_aj, dX8_varianceAt_15, dX8_varianceAt_16, dX8_varianceAt_19, dX8_varianceAt_20, dX8_varianceAt_22, dX8_varianceAt_23, dX8_varianceAt_24, qe_lsub, dX8_varianceAt_25, qe_lstore, dX8_varianceAt_27, dX8_varianceAt_28, dX8_varianceAt_31, dX8_varianceAt_32, dX8_varianceAt_34, dX8_varianceAt_35, dX8_varianceAt_36, qe_l2i, dX8_varianceAt_37, qe_istore, dX8_varianceAt_39, qe_lload_2, qe_ll, dX8_varianceAt_40, qe_ldc2, qe_pk, qDi_8_267, dX8_varianceAt_43, qe_lcmp, iI_cmp_lt, iI_cmp_le, iI_cmp_ge, iI_cmp_gt, iI_cmp_eq, dX8_varianceAt_44, qe_if_ne, q_br, q_tg, Int.reduceNatCast', Int.reduceAdd, Int.reduceToNat, dX8_varianceAt_47, qe_lconst0, dX8_varianceAt_48, qe_goto, dX8_varianceAt_51, dX8_varianceAt_52, qe_lconst1, dX8_varianceAt_53, qe_iload, dX8_varianceAt_55, qe_lshl, dX8_varianceAt_56, dX8_varianceAt_57, dX8_varianceAt_58, qe_lmul, dX8_varianceAt_59, qe_lload, dX8_varianceAt_61, dX8_varianceAt_62, dX8_varianceAt_64, dX8_varianceAt_65, dX8_varianceAt_67, qe_iconst, dX8_varianceAt_68, dX8_varianceAt_70, qe_imul, dX8_varianceAt_71, qe_isub, dX8_varianceAt_72, dX8_varianceAt_73, qe_lret, hw, hp, iI_add, n10, n11, n13]
  unfold rSc nsc at h
  by_cases c : rMo r = 4 ∧ ¬ rLw r = rUp r
  · have hin : rLw r * (rD r * 1024) ≤ rN r ∧ rN r ≤ rUp r * (rD r * 1024) := by
      have := n_in (p := (rF r).1) (lo := (rF r).2.1) (hi := (rF r).2.2) (n := rN r) (d := rD r) hd1
      rw [← o11, ← o12] at this
      exact this c.2
    have nd := nds_rng (bits := rBi r) hd1 hin.1 hin.2
    rw [if_pos (by omega)] at h
    rw [if_pos c]
    generalize nds (rN r) (rD r) (rLw r) (rUp r) (rBi r) = N at *
    have es : ((16 : Int) - 2 * (rBi r : Int)).toNat = 2 * (8 - rBi r) := by omega
    simp (disch := omega) only [iI_inN, iI_clN, true_and, h10, h11, h13, lI_sub, lI_mul, lI_add, lI_shl, lI_shl2, lI_i, iI_sub, iI_mul, lI_eq, es, Int.toNat_natCast, Int.one_mul, Int.reduceToNat, Int.reducePow]
    exact ⟨fun _ => h, fun q => absurd (show ¬ N = -2000000009 by omega) q⟩
  · rw [if_neg (by omega)] at h
    rw [if_neg c]
    simp (disch := omega) only [iI_inN, iI_clN, true_and, h10, h11, h13, lI_i, lI_eq, not_true]
    exact ⟨fun q => absurd q (by first | exact fun z => z | exact fun z => z rfl), fun _ => h⟩
end
