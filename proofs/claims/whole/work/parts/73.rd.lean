/-! ===== Model: the reader's small steps ===== -/
def skF (tx : Nat → Nat) : Nat → Nat → Nat
  | 0, i => i
  | n + 1, i => if tx i = 32 then skF tx n (i + 1) else i
/-- the next place without a blank -/
def skp (tx : Nat → Nat) (L i : Nat) : Nat := skF tx (L - i) i
theorem skp_ge {tx : Nat → Nat} {L i : Nat} (h : L ≤ i) : skp tx L i = i := by
  unfold skp
  rw [show L - i = 0 by omega]; rfl
theorem skp_sp {tx : Nat → Nat} {L i : Nat} (h : i < L) (h2 : tx i = 32) : skp tx L i = skp tx L (i + 1) := by
  unfold skp
  rw [show L - i = (L - (i + 1)) + 1 by omega]
  show (if tx i = 32 then _ else _) = _
  rw [if_pos h2]
theorem skp_ns {tx : Nat → Nat} {L i : Nat} (h2 : ¬ (i < L ∧ tx i = 32)) : skp tx L i = i := by
  rcases Nat.lt_or_ge i L with h | h
  · unfold skp
    rw [show L - i = (L - (i + 1)) + 1 by omega]
    show (if tx i = 32 then _ else _) = _
    rw [if_neg (fun q => h2 ⟨h, q⟩)]
  · exact skp_ge h
theorem skp_all {tx : Nat → Nat} {L : Nat} : ∀ (n i : Nat), L - i = n → i ≤ L → (i ≤ skp tx L i ∧ skp tx L i ≤ L) ∧ (skp tx L i < L → ¬ tx (skp tx L i) = 32) := by
  intro n
  induction n with
  | zero =>
    intro i h hi
    rw [skp_ge (by omega)]
    exact ⟨by omega, fun q => by omega⟩
  | succ n ih =>
    intro i h hi
    by_cases c : tx i = 32
    · rw [skp_sp (by omega) c]
      have := ih (i + 1) (by omega) (by omega)
      exact ⟨by omega, this.2⟩
    · rw [skp_ns (fun q => c q.2)]
      exact ⟨by omega, fun _ => c⟩
theorem skp_rng {tx : Nat → Nat} {L i : Nat} (hi : i ≤ L) : i ≤ skp tx L i ∧ skp tx L i ≤ L := (skp_all _ i rfl hi).1
theorem skp_nt {tx : Nat → Nat} {L i : Nat} (hi : i ≤ L) (h : skp tx L i < L) : ¬ tx (skp tx L i) = 32 := (skp_all _ i rfl hi).2 h
theorem skp_id {tx : Nat → Nat} {L i : Nat} (hi : i ≤ L) : skp tx L (skp tx L i) = skp tx L i := skp_ns (fun q => skp_nt hi q.1 q.2)
/-- reading on from a place to the end of the text -/
abbrev RD (tx : Nat → Nat) (L i : Nat) (q : QPs) : Option Nat × QPs := pRd tx (L - i) i q
theorem RD_s {tx : Nat → Nat} {L i : Nat} {q q' : QPs} (h : i < L) (e : pTake q (tx i) = some q') : RD tx L i q = RD tx L (i + 1) q' := by
  unfold RD
  rw [show L - i = (L - (i + 1)) + 1 by omega]
  show (match pTake q (tx i) with | none => (some i, q) | some q' => pRd tx (L - (i + 1)) (i + 1) q') = _
  rw [e]
theorem RD_n {tx : Nat → Nat} {L i : Nat} {q : QPs} (h : i < L) (e : pTake q (tx i) = none) : (RD tx L i q).1 = some i := by
  unfold RD
  rw [show L - i = (L - (i + 1)) + 1 by omega]
  show (match pTake q (tx i) with | none => (some i, q) | some q' => pRd tx (L - (i + 1)) (i + 1) q').1 = _
  rw [e]
theorem RD_e {tx : Nat → Nat} {L i : Nat} {q : QPs} (h : L ≤ i) : RD tx L i q = (if q.2.1.1 = 0 ∧ q.2.2.1 = 0 then none else some i, q) := by
  unfold RD
  rw [show L - i = 0 by omega]; rfl
theorem pT_b {q : QPs} (h8 : ¬ q.2.2.1 = 8) (h9 : ¬ q.2.2.1 = 9) : pTake q 32 = some q := by
  obtain ⟨pg, ⟨dp, op⟩, wn, ct, kd, tg, fi⟩ := q
  unfold pTake
  dsimp only at h8 h9 ⊢
  rw [if_pos rfl, if_neg h8, if_neg h9]
theorem RD_sk {tx : Nat → Nat} {L : Nat} {q : QPs} (h8 : ¬ q.2.2.1 = 8) (h9 : ¬ q.2.2.1 = 9) : ∀ (n i : Nat), L - i = n → i ≤ L → RD tx L i q = RD tx L (skp tx L i) q := by
  intro n
  induction n with
  | zero =>
    intro i h hi
    rw [skp_ge (by omega)]
  | succ n ih =>
    intro i h hi
    by_cases c : tx i = 32
    · rw [skp_sp (by omega) c, ← ih (i + 1) (by omega) (by omega)]
      exact RD_s (by omega) (by rw [c]; exact pT_b h8 h9)
    · rw [skp_ns (fun q => c q.2)]
/-- a byte that is due -/
theorem RD_due {tx : Nat → Nat} {L i : Nat} {q : QPs} (hi : i ≤ L) (h0 : ¬ q.2.2.1 = 0) (h8 : ¬ q.2.2.1 = 8) (h9 : ¬ q.2.2.1 = 9) {P : Nat → Prop} {q' : Nat → QPs} (hP : ∀ c, ¬ c = 32 → P c → pTake q c = some (q' c)) (hN : ∀ c, ¬ c = 32 → ¬ P c → pTake q c = none) :
    (skp tx L i < L → P (tx (skp tx L i)) → RD tx L i q = RD tx L (skp tx L i + 1) (q' (tx (skp tx L i)))) ∧ (¬ (skp tx L i < L ∧ P (tx (skp tx L i))) → (RD tx L i q).1 = some (skp tx L i)) := by
  have r := skp_rng (tx := tx) hi
  rw [RD_sk h8 h9 _ i rfl hi]
  refine ⟨fun h1 h2 => RD_s h1 (hP _ (skp_nt hi h1) h2), fun h => ?_⟩
  rcases Nat.lt_or_ge (skp tx L i) L with h1 | h1
  · exact RD_n h1 (hN _ (skp_nt hi h1) (fun z => h ⟨h1, z⟩))
  · rw [RD_e h1, if_neg (fun z => h0 z.2)]
abbrev QZ : Type := Int32 × Int32 × Int64 × Int64 × Int32 × Int32 × Int32 × Int32 × Int64 × Int64 × Int64 × Int32
abbrev cRd (M L : Nat) (Z : QZ) (st sp : Nat) (bk : Int32) (od : Nat) : QCl := cMo M Z.1 Z.2.1 (iI L) Z.2.2.1 Z.2.2.2.1 Z.2.2.2.2.1 Z.2.2.2.2.2.1 Z.2.2.2.2.2.2.1 Z.2.2.2.2.2.2.2.1 Z.2.2.2.2.2.2.2.2.1 Z.2.2.2.2.2.2.2.2.2.1 Z.2.2.2.2.2.2.2.2.2.2.1 (iI st) (iI sp) bk (iI od) Z.2.2.2.2.2.2.2.2.2.2.2
def rdW (w : QWd) (M L : Nat) (Z : QZ) (tx : Nat → Nat) (st sp : Nat) (bk : Int32) (od : Nat) (f4 f5 f6 f7 f8 f9 : Nat → Int32) : Prop :=
  w M = some (cRd M L Z st sp bk od) ∧ (∃ f, w (M + 2) = some (aInt 80 f) ∧ ∀ i, i < L → f i = iI (tx i)) ∧ w (M + 4) = some (aInt 80 f4) ∧ w (M + 5) = some (aInt 80 f5) ∧ w (M + 6) = some (aInt 80 f6) ∧ w (M + 7) = some (aInt 80 f7) ∧ w (M + 8) = some (aInt 80 f8) ∧ w (M + 9) = some (aInt 3 f9)
/-- the reader's own cells alone change -/
def rfr (w w' : QWd) (M : Nat) : Prop := ∀ q, q ≠ M → (q < M + 4 ∨ M + 9 < q) → w' q = w q
theorem rfr.rf {w : QWd} {M : Nat} : rfr w w M := fun _ _ _ => rfl
theorem rfr.tr {w w1 w2 : QWd} {M : Nat} (h : rfr w w1 M) (h' : rfr w1 w2 M) : rfr w w2 M := fun q a b => (h' q a b).trans (h q a b)
theorem rfr.set {w w' : QWd} {M b : Nat} {x : QCl} (h : rfr w w' M) (hb : b = M ∨ (M + 4 ≤ b ∧ b ≤ M + 9)) : rfr w (q_set w' b x) M := fun q h1 h2 => by rw [q_set_n _ _ (by omega)]; exact h q h1 h2
section
variable {w : QWd} {M L : Nat} {Z : QZ} {tx : Nat → Nat} {st sp : Nat} {bk : Int32} {od : Nat} {f4 f5 f6 f7 f8 f9 : Nat → Int32} {sz : Nat} {post : QPo}
theorem rdW.c (h : rdW w M L Z tx st sp bk od f4 f5 f6 f7 f8 f9) (st' sp' : Nat) (bk' : Int32) (od' : Nat) : rdW (q_set w M (cRd M L Z st' sp' bk' od')) M L Z tx st' sp' bk' od' f4 f5 f6 f7 f8 f9 := by
  obtain ⟨h0, ⟨f, h2, h2'⟩, h4, h5, h6, h7, h8, h9⟩ := h
  exact ⟨q_set_s _ _ _, ⟨f, by rw [q_set_n _ _ (by omega)]; exact h2, h2'⟩, by rw [q_set_n _ _ (by omega)]; exact h4, by rw [q_set_n _ _ (by omega)]; exact h5, by rw [q_set_n _ _ (by omega)]; exact h6, by rw [q_set_n _ _ (by omega)]; exact h7, by rw [q_set_n _ _ (by omega)]; exact h8, by rw [q_set_n _ _ (by omega)]; exact h9⟩
theorem rdW.s4 (h : rdW w M L Z tx st sp bk od f4 f5 f6 f7 f8 f9) (g : Nat → Int32) : rdW (q_set w (M + 4) (aInt 80 g)) M L Z tx st sp bk od g f5 f6 f7 f8 f9 := by
  obtain ⟨h0, ⟨f, h2, h2'⟩, h4, h5, h6, h7, h8, h9⟩ := h
  exact ⟨by rw [q_set_n _ _ (by omega)]; exact h0, ⟨f, by rw [q_set_n _ _ (by omega)]; exact h2, h2'⟩, q_set_s _ _ _, by rw [q_set_n _ _ (by omega)]; exact h5, by rw [q_set_n _ _ (by omega)]; exact h6, by rw [q_set_n _ _ (by omega)]; exact h7, by rw [q_set_n _ _ (by omega)]; exact h8, by rw [q_set_n _ _ (by omega)]; exact h9⟩
theorem rdW.s5 (h : rdW w M L Z tx st sp bk od f4 f5 f6 f7 f8 f9) (g : Nat → Int32) : rdW (q_set w (M + 5) (aInt 80 g)) M L Z tx st sp bk od f4 g f6 f7 f8 f9 := by
  obtain ⟨h0, ⟨f, h2, h2'⟩, h4, h5, h6, h7, h8, h9⟩ := h
  exact ⟨by rw [q_set_n _ _ (by omega)]; exact h0, ⟨f, by rw [q_set_n _ _ (by omega)]; exact h2, h2'⟩, by rw [q_set_n _ _ (by omega)]; exact h4, q_set_s _ _ _, by rw [q_set_n _ _ (by omega)]; exact h6, by rw [q_set_n _ _ (by omega)]; exact h7, by rw [q_set_n _ _ (by omega)]; exact h8, by rw [q_set_n _ _ (by omega)]; exact h9⟩
theorem rdW.s6 (h : rdW w M L Z tx st sp bk od f4 f5 f6 f7 f8 f9) (g : Nat → Int32) : rdW (q_set w (M + 6) (aInt 80 g)) M L Z tx st sp bk od f4 f5 g f7 f8 f9 := by
  obtain ⟨h0, ⟨f, h2, h2'⟩, h4, h5, h6, h7, h8, h9⟩ := h
  exact ⟨by rw [q_set_n _ _ (by omega)]; exact h0, ⟨f, by rw [q_set_n _ _ (by omega)]; exact h2, h2'⟩, by rw [q_set_n _ _ (by omega)]; exact h4, by rw [q_set_n _ _ (by omega)]; exact h5, q_set_s _ _ _, by rw [q_set_n _ _ (by omega)]; exact h7, by rw [q_set_n _ _ (by omega)]; exact h8, by rw [q_set_n _ _ (by omega)]; exact h9⟩
theorem rdW.s7 (h : rdW w M L Z tx st sp bk od f4 f5 f6 f7 f8 f9) (g : Nat → Int32) : rdW (q_set w (M + 7) (aInt 80 g)) M L Z tx st sp bk od f4 f5 f6 g f8 f9 := by
  obtain ⟨h0, ⟨f, h2, h2'⟩, h4, h5, h6, h7, h8, h9⟩ := h
  exact ⟨by rw [q_set_n _ _ (by omega)]; exact h0, ⟨f, by rw [q_set_n _ _ (by omega)]; exact h2, h2'⟩, by rw [q_set_n _ _ (by omega)]; exact h4, by rw [q_set_n _ _ (by omega)]; exact h5, by rw [q_set_n _ _ (by omega)]; exact h6, q_set_s _ _ _, by rw [q_set_n _ _ (by omega)]; exact h8, by rw [q_set_n _ _ (by omega)]; exact h9⟩
theorem rdW.s8 (h : rdW w M L Z tx st sp bk od f4 f5 f6 f7 f8 f9) (g : Nat → Int32) : rdW (q_set w (M + 8) (aInt 80 g)) M L Z tx st sp bk od f4 f5 f6 f7 g f9 := by
  obtain ⟨h0, ⟨f, h2, h2'⟩, h4, h5, h6, h7, h8, h9⟩ := h
  exact ⟨by rw [q_set_n _ _ (by omega)]; exact h0, ⟨f, by rw [q_set_n _ _ (by omega)]; exact h2, h2'⟩, by rw [q_set_n _ _ (by omega)]; exact h4, by rw [q_set_n _ _ (by omega)]; exact h5, by rw [q_set_n _ _ (by omega)]; exact h6, by rw [q_set_n _ _ (by omega)]; exact h7, q_set_s _ _ _, by rw [q_set_n _ _ (by omega)]; exact h9⟩
theorem rdW.s9 (h : rdW w M L Z tx st sp bk od f4 f5 f6 f7 f8 f9) (g : Nat → Int32) : rdW (q_set w (M + 9) (aInt 3 g)) M L Z tx st sp bk od f4 f5 f6 f7 f8 g := by
  obtain ⟨h0, ⟨f, h2, h2'⟩, h4, h5, h6, h7, h8, h9⟩ := h
  exact ⟨by rw [q_set_n _ _ (by omega)]; exact h0, ⟨f, by rw [q_set_n _ _ (by omega)]; exact h2, h2'⟩, by rw [q_set_n _ _ (by omega)]; exact h4, by rw [q_set_n _ _ (by omega)]; exact h5, by rw [q_set_n _ _ (by omega)]; exact h6, by rw [q_set_n _ _ (by omega)]; exact h7, by rw [q_set_n _ _ (by omega)]; exact h8, q_set_s _ _ _⟩
/-- the byte here -/
def hrc (tx : Nat → Nat) (L sp : Nat) : Int := if sp < L then (tx sp : Int) else -2000000009
theorem m_here (hW : rdW w M L Z tx st sp bk od f4 f5 f6 f7 f8 f9) (hL : L ≤ 80) (hsp : sp ≤ L) (h : post (some (.int (iI (hrc tx L sp)))) w) : T_X8_here [.ref M] w sz post := by
  obtain ⟨h0, ⟨f, h2, h2'⟩, -⟩ := hW
  unfold hrc at h
  refine Ti_X8_here (fun G hG => hG (fun _ => false) 30 _ _ _ _ _ _ ?_)
  simp only [qe_x, qe_v, q_get, Bool.cond_false, Bool.cond_true, Nat.reduceAdd, Nat.reduceBEq, Nat.reduceLT, Nat.reduceLeDiff, Nat.add_zero, Nat.zero_add, Nat.le_refl, true_and, and_true, List.length_cons, List.length_nil, Option.some.injEq, exists_eq_left', exists_eq_left, exists_eq', reduceCtorEq, dX8_here_0, qe_aload_0, qe_al, dX8_here_1, qe_get, qF_8_197, qe_gf, qe_fg, List.getElem?_cons_zero, List.getElem?_cons_succ, dX8_here_4, dX8_here_5, qF_8_193, dX8_here_8, qe_icmp_ge, q_br, q_tg, Int.reduceNatCast', Int.reduceAdd, Int.reduceToNat, Int.reduceLE, Int.reduceNeg, dX8_here_11, dX8_here_12, qF_8_13, dX8_here_15, dX8_here_16, dX8_here_19, qe_iald, qe_ai, qe_ai6, dX8_here_20, qe_goto, dX8_here_23, qe_ldc, qe_pk, qCi_8_200, dX8_here_25, qe_iret, qe_nar_i, qe_nar_0, qe_nar_1, h0, h2]
  rcases Nat.lt_or_ge sp L with c | c
  · rw [if_pos c] at h
    simp (disch := omega) only [iI_le, iI_inN, iI_clN, true_and, h2' sp c]
    exact ⟨fun q => absurd q (by omega), fun _ => h⟩
  · rw [if_neg (by omega)] at h
    simp (disch := omega) only [iI_le]
    exact ⟨fun _ => h, fun q => absurd (show (L : Int) ≤ sp by omega) q⟩
theorem hrc_rng (htx : ∀ i, i < L → tx i < 128) : i32 (hrc tx L sp) := by
  unfold hrc
  split
  · have := htx sp (by assumption); exact ⟨by omega, by omega⟩
  · exact ⟨by omega, by omega⟩
theorem m_skips (hW : rdW w M L Z tx st sp bk od f4 f5 f6 f7 f8 f9) (hL : L ≤ 80) (hsp : sp ≤ L) (htx : ∀ i, i < L → tx i < 128) (h : ∀ w', rdW w' M L Z tx st (skp tx L sp) bk od f4 f5 f6 f7 f8 f9 → rfr w w' M → post none w') : T_X8_skips [.ref M] w sz post := by
  refine Ti_X8_skips (fun G hG => ?_)
  have loop : ∀ (n s : Nat) (v : QWd), L - s = n → s ≤ L → skp tx L s = skp tx L sp → rdW v M L Z tx st s bk od f4 f5 f6 f7 f8 f9 → rfr w v M → G 0 [some (.ref M)] [] v sz 0 := by
    intro n
    induction n with
    | zero =>
      intro s v hs hsL e hv fv
      have sL : s = L := by omega
      refine hG (fun pc => pc == 0) 30 _ _ _ _ _ _ ?_
      simp only [qe_x, qe_v, q_get, Bool.cond_false, Bool.cond_true, Nat.reduceAdd, Nat.reduceBEq, Nat.reduceLT, Nat.reduceLeDiff, Nat.add_zero, Nat.zero_add, Nat.le_refl, true_and, and_true, List.length_cons, List.length_nil, Option.some.injEq, exists_eq_left', exists_eq_left, exists_eq', reduceCtorEq, dX8_skips_0, qe_aload_0, qe_al, dX8_skips_1, qe_invv, ms_X8_skips_201, qe_c0, qe_c1, qe_c2, qe_c3, qe_c8, qe_c9, qe_cs, qe_cv, qe_tk, qe_tk0, qe_cat0, qe_cati, qe_catl, qe_catr, qe_catn, qe_ob, qe_cpy, qe_tl, qe_tl0, dX8_skips_4, qe_bipush, Int.reduceLE, Int.reduceLT, Int.reduceNeg, dX8_skips_6, qe_icmp_ne, q_br, q_tg, Int.reduceNatCast', Int.reduceAdd, Int.reduceToNat, dX8_skips_9, dX8_skips_10, qe_dup_i, qe_dup_r, dX8_skips_11, qe_get, qF_8_197, qe_gf, qe_fg, List.getElem?_cons_zero, List.getElem?_cons_succ, dX8_skips_14, qe_iconst, dX8_skips_15, qe_iadd, dX8_skips_16, qe_put, qe_pf, qe_pfF, qe_fp, qe_pv_i, qe_pv_l, qe_pv_a, qe_pv_o, qe_pv_z0, qe_pv_z1, List.set_cons_zero, List.set_cons_succ, dX8_skips_19, qe_goto, dX8_skips_22, qe_vret]
      refine ⟨⟨_, hv.1⟩, m_here hv hL hsL ?_⟩
      simp only [qe_x, qe_v, q_get, Bool.cond_false, Bool.cond_true, Nat.reduceAdd, Nat.reduceBEq, Nat.reduceLT, Nat.reduceLeDiff, Nat.add_zero, Nat.zero_add, Nat.le_refl, true_and, and_true, List.length_cons, List.length_nil, Option.some.injEq, exists_eq_left', exists_eq_left, exists_eq', reduceCtorEq, dX8_skips_0, qe_aload_0, qe_al, dX8_skips_1, qe_invv, ms_X8_skips_201, qe_c0, qe_c1, qe_c2, qe_c3, qe_c8, qe_c9, qe_cs, qe_cv, qe_tk, qe_tk0, qe_cat0, qe_cati, qe_catl, qe_catr, qe_catn, qe_ob, qe_cpy, qe_tl, qe_tl0, dX8_skips_4, qe_bipush, Int.reduceLE, Int.reduceLT, Int.reduceNeg, dX8_skips_6, qe_icmp_ne, q_br, q_tg, Int.reduceNatCast', Int.reduceAdd, Int.reduceToNat, dX8_skips_9, dX8_skips_10, qe_dup_i, qe_dup_r, dX8_skips_11, qe_get, qF_8_197, qe_gf, qe_fg, List.getElem?_cons_zero, List.getElem?_cons_succ, dX8_skips_14, qe_iconst, dX8_skips_15, qe_iadd, dX8_skips_16, qe_put, qe_pf, qe_pfF, qe_fp, qe_pv_i, qe_pv_l, qe_pv_a, qe_pv_o, qe_pv_z0, qe_pv_z1, List.set_cons_zero, List.set_cons_succ, dX8_skips_19, qe_goto, dX8_skips_22, qe_vret]
      have e2 : hrc tx L s = -2000000009 := if_neg (by omega)
      rw [e2]
      simp (disch := omega) only [iI_eq]
      rw [← e, skp_ge (by omega)] at h
      exact ⟨fun _ => h v hv fv, fun q => absurd (show ¬ (-2000000009 : Int) = 32 by omega) q⟩
    | succ n ih =>
      intro s v hs hsL e hv fv
      have hb := htx s (by omega)
      refine hG (fun pc => pc == 0) 30 _ _ _ _ _ _ ?_
      simp only [qe_x, qe_v, q_get, Bool.cond_false, Bool.cond_true, Nat.reduceAdd, Nat.reduceBEq, Nat.reduceLT, Nat.reduceLeDiff, Nat.add_zero, Nat.zero_add, Nat.le_refl, true_and, and_true, List.length_cons, List.length_nil, Option.some.injEq, exists_eq_left', exists_eq_left, exists_eq', reduceCtorEq, dX8_skips_0, qe_aload_0, qe_al, dX8_skips_1, qe_invv, ms_X8_skips_201, qe_c0, qe_c1, qe_c2, qe_c3, qe_c8, qe_c9, qe_cs, qe_cv, qe_tk, qe_tk0, qe_cat0, qe_cati, qe_catl, qe_catr, qe_catn, qe_ob, qe_cpy, qe_tl, qe_tl0, dX8_skips_4, qe_bipush, Int.reduceLE, Int.reduceLT, Int.reduceNeg, dX8_skips_6, qe_icmp_ne, q_br, q_tg, Int.reduceNatCast', Int.reduceAdd, Int.reduceToNat, dX8_skips_9, dX8_skips_10, qe_dup_i, qe_dup_r, dX8_skips_11, qe_get, qF_8_197, qe_gf, qe_fg, List.getElem?_cons_zero, List.getElem?_cons_succ, dX8_skips_14, qe_iconst, dX8_skips_15, qe_iadd, dX8_skips_16, qe_put, qe_pf, qe_pfF, qe_fp, qe_pv_i, qe_pv_l, qe_pv_a, qe_pv_o, qe_pv_z0, qe_pv_z1, List.set_cons_zero, List.set_cons_succ, dX8_skips_19, qe_goto, dX8_skips_22, qe_vret]
      refine ⟨⟨_, hv.1⟩, m_here hv hL hsL ?_⟩
      have e2 : hrc tx L s = (tx s : Int) := if_pos (by omega)
      rw [e2]
      simp only [qe_x, qe_v, q_get, Bool.cond_false, Bool.cond_true, Nat.reduceAdd, Nat.reduceBEq, Nat.reduceLT, Nat.reduceLeDiff, Nat.add_zero, Nat.zero_add, Nat.le_refl, true_and, and_true, List.length_cons, List.length_nil, Option.some.injEq, exists_eq_left', exists_eq_left, exists_eq', reduceCtorEq, dX8_skips_0, qe_aload_0, qe_al, dX8_skips_1, qe_invv, ms_X8_skips_201, qe_c0, qe_c1, qe_c2, qe_c3, qe_c8, qe_c9, qe_cs, qe_cv, qe_tk, qe_tk0, qe_cat0, qe_cati, qe_catl, qe_catr, qe_catn, qe_ob, qe_cpy, qe_tl, qe_tl0, dX8_skips_4, qe_bipush, Int.reduceLE, Int.reduceLT, Int.reduceNeg, dX8_skips_6, qe_icmp_ne, q_br, q_tg, Int.reduceNatCast', Int.reduceAdd, Int.reduceToNat, dX8_skips_9, dX8_skips_10, qe_dup_i, qe_dup_r, dX8_skips_11, qe_get, qF_8_197, qe_gf, qe_fg, List.getElem?_cons_zero, List.getElem?_cons_succ, dX8_skips_14, qe_iconst, dX8_skips_15, qe_iadd, dX8_skips_16, qe_put, qe_pf, qe_pfF, qe_fp, qe_pv_i, qe_pv_l, qe_pv_a, qe_pv_o, qe_pv_z0, qe_pv_z1, List.set_cons_zero, List.set_cons_succ, dX8_skips_19, qe_goto, dX8_skips_22, qe_vret, hv.1, iI_add]
      simp (disch := omega) only [iI_eq]
      refine ⟨fun c => ?_, fun c => ?_⟩
      · rw [← e, skp_ns (fun z => c (by omega))] at h
        exact h v hv fv
      · refine ih (s + 1) _ (by omega) (by omega) ?_ (hv.c st (s + 1) bk od) (fv.set (Or.inl rfl))
        rw [← e]
        exact (skp_sp (by omega) (by omega)).symm
  exact loop _ sp w rfl hsp rfl hW rfr.rf
theorem m_fails (hW : rdW w M L Z tx st sp bk od f4 f5 f6 f7 f8 f9) (h : ∀ w', rdW w' M L Z tx st sp (if bk = iI (-2000000009) then iI sp else bk) od f4 f5 f6 f7 f8 f9 → rfr w w' M → post none w') : T_X8_fails [.ref M] w sz post := by
  refine Ti_X8_fails (fun G hG => hG (fun _ => false) 30 _ _ _ _ _ _ ?_)
  simp only [qe_x, qe_v, q_get, Bool.cond_false, Bool.cond_true, Nat.reduceAdd, Nat.reduceBEq, Nat.reduceLT, Nat.reduceLeDiff, Nat.add_zero, Nat.zero_add, Nat.le_refl, true_and, and_true, List.length_cons, List.length_nil, Option.some.injEq, exists_eq_left', exists_eq_left, exists_eq', reduceCtorEq, dX8_fails_0, qe_aload_0, qe_al, dX8_fails_1, dX8_fails_2, qe_get, qF_8_205, qe_gf, qe_fg, List.getElem?_cons_zero, List.getElem?_cons_succ, dX8_fails_5, qe_ldc, qe_pk, qCi_8_200, dX8_fails_7, qe_icmp_ne, q_br, q_tg, Int.reduceNatCast', Int.reduceAdd, Int.reduceToNat, Int.reduceLE, Int.reduceNeg, dX8_fails_10, dX8_fails_11, qF_8_197, dX8_fails_14, qe_goto, dX8_fails_17, dX8_fails_18, dX8_fails_21, qe_put, qe_pf, qe_pfF, qe_fp, qe_pv_i, qe_pv_l, qe_pv_a, qe_pv_o, qe_pv_z0, qe_pv_z1, List.set_cons_zero, List.set_cons_succ, dX8_fails_24, qe_vret, hW.1]
  refine ⟨fun c => ?_, fun c => ?_⟩
  · rw [if_neg c] at h
    exact h _ (hW.c st sp bk od) (rfr.rf.set (Or.inl rfl))
  · rw [if_pos (Decidable.not_not.mp c)] at h
    exact h _ (hW.c st sp (iI sp) od) (rfr.rf.set (Or.inl rfl))
theorem m_takesIn {lo hi : Nat} (hW : rdW w M L Z tx st sp bk od f4 f5 f6 f7 f8 f9) (hL : L ≤ 80) (hsp : sp ≤ L) (htx : ∀ i, i < L → tx i < 128) (hlo : lo < 128) (hhi : hi < 128)
    (h1 : bk = iI (-2000000009) → skp tx L sp < L → lo ≤ tx (skp tx L sp) → tx (skp tx L sp) ≤ hi → ∀ w', rdW w' M L Z tx st (skp tx L sp + 1) bk od f4 f5 f6 f7 f8 f9 → rfr w w' M → post (some (.int (iI ((tx (skp tx L sp) - lo : Nat) : Int)))) w')
    (h2 : ¬ (bk = iI (-2000000009) ∧ skp tx L sp < L ∧ lo ≤ tx (skp tx L sp) ∧ tx (skp tx L sp) ≤ hi) → ∀ w', rdW w' M L Z tx st (skp tx L sp) (if bk = iI (-2000000009) then iI (skp tx L sp) else bk) od f4 f5 f6 f7 f8 f9 → rfr w w' M → post (some (.int (iI 0))) w') : T_X8_takesIn [.ref M, .int (iI lo), .int (iI hi)] w sz post := by
  have r := skp_rng (tx := tx) hsp
  refine Ti_X8_takesIn (fun G hG => ?_)
  generalize hs : skp tx L sp = s at *
  have j25 : ∀ v, rdW v M L Z tx st s bk od f4 f5 f6 f7 f8 f9 → rfr w v M → ¬ (bk = iI (-2000000009) ∧ s < L ∧ lo ≤ tx s ∧ tx s ≤ hi) → G 25 [some (.ref M), some (.int (iI lo)), some (.int (iI hi))] [] v sz 0 := by
    intro v hv fv hq
    refine hG (fun pc => pc == 25) 60 _ _ _ _ _ _ ?_
    simp only [qe_x, qe_v, q_get, Bool.cond_false, Bool.cond_true, Nat.reduceAdd, Nat.reduceBEq, Nat.reduceLT, Nat.reduceLeDiff, Nat.add_zero, Nat.zero_add, Nat.le_refl, true_and, and_true, List.length_cons, List.length_nil, Option.some.injEq, exists_eq_left', exists_eq_left, exists_eq', reduceCtorEq, dX8_takesIn_0, qe_aload_0, qe_al, dX8_takesIn_1, qe_invv, ms_X8_takesIn_208, qe_c0, qe_c1, qe_c2, qe_c3, qe_c8, qe_c9, qe_cs, qe_cv, qe_tk, qe_tk0, qe_cat0, qe_cati, qe_catl, qe_catr, qe_catn, qe_ob, qe_cpy, qe_tl, qe_tl0, dX8_takesIn_4, dX8_takesIn_5, qe_get, qF_8_205, qe_gf, qe_fg, List.getElem?_cons_zero, List.getElem?_cons_succ, dX8_takesIn_8, qe_ldc, qe_pk, qCi_8_200, dX8_takesIn_10, qe_icmp_ne, q_br, q_tg, Int.reduceNatCast', Int.reduceAdd, Int.reduceToNat, Int.reduceLE, Int.reduceNeg, dX8_takesIn_13, dX8_takesIn_14, ms_X8_takesIn_201, dX8_takesIn_17, qe_iload_1, qe_il, dX8_takesIn_18, qe_iload_2, dX8_takesIn_19, qe_invs, ms_X8_takesIn_53, dX8_takesIn_22, qe_if_ne, dX8_takesIn_25, dX8_takesIn_26, ms_X8_takesIn_211, dX8_takesIn_29, qe_iconst, dX8_takesIn_30, qe_iret, qe_nar_i, qe_nar_0, qe_nar_1, dX8_takesIn_31, dX8_takesIn_32, qe_dup_i, qe_dup_r, dX8_takesIn_33, qF_8_197, dX8_takesIn_36, dX8_takesIn_37, qe_iadd, dX8_takesIn_38, qe_put, qe_pf, qe_pfF, qe_fp, qe_pv_i, qe_pv_l, qe_pv_a, qe_pv_o, qe_pv_z0, qe_pv_z1, List.set_cons_zero, List.set_cons_succ, dX8_takesIn_41, dX8_takesIn_42, qF_8_13, dX8_takesIn_45, dX8_takesIn_46, dX8_takesIn_49, dX8_takesIn_50, qe_isub, dX8_takesIn_51, qe_iald, qe_ai, qe_ai6, dX8_takesIn_52, dX8_takesIn_53, dX8_takesIn_54]
    refine ⟨⟨_, hv.1⟩, m_fails hv (fun v2 hv2 fv2 => ?_)⟩
    simp only [qe_x, qe_v, q_get, Bool.cond_false, Bool.cond_true, Nat.reduceAdd, Nat.reduceBEq, Nat.reduceLT, Nat.reduceLeDiff, Nat.add_zero, Nat.zero_add, Nat.le_refl, true_and, and_true, List.length_cons, List.length_nil, Option.some.injEq, exists_eq_left', exists_eq_left, exists_eq', reduceCtorEq, dX8_takesIn_0, qe_aload_0, qe_al, dX8_takesIn_1, qe_invv, ms_X8_takesIn_208, qe_c0, qe_c1, qe_c2, qe_c3, qe_c8, qe_c9, qe_cs, qe_cv, qe_tk, qe_tk0, qe_cat0, qe_cati, qe_catl, qe_catr, qe_catn, qe_ob, qe_cpy, qe_tl, qe_tl0, dX8_takesIn_4, dX8_takesIn_5, qe_get, qF_8_205, qe_gf, qe_fg, List.getElem?_cons_zero, List.getElem?_cons_succ, dX8_takesIn_8, qe_ldc, qe_pk, qCi_8_200, dX8_takesIn_10, qe_icmp_ne, q_br, q_tg, Int.reduceNatCast', Int.reduceAdd, Int.reduceToNat, Int.reduceLE, Int.reduceNeg, dX8_takesIn_13, dX8_takesIn_14, ms_X8_takesIn_201, dX8_takesIn_17, qe_iload_1, qe_il, dX8_takesIn_18, qe_iload_2, dX8_takesIn_19, qe_invs, ms_X8_takesIn_53, dX8_takesIn_22, qe_if_ne, dX8_takesIn_25, dX8_takesIn_26, ms_X8_takesIn_211, dX8_takesIn_29, qe_iconst, dX8_takesIn_30, qe_iret, qe_nar_i, qe_nar_0, qe_nar_1, dX8_takesIn_31, dX8_takesIn_32, qe_dup_i, qe_dup_r, dX8_takesIn_33, qF_8_197, dX8_takesIn_36, dX8_takesIn_37, qe_iadd, dX8_takesIn_38, qe_put, qe_pf, qe_pfF, qe_fp, qe_pv_i, qe_pv_l, qe_pv_a, qe_pv_o, qe_pv_z0, qe_pv_z1, List.set_cons_zero, List.set_cons_succ, dX8_takesIn_41, dX8_takesIn_42, qF_8_13, dX8_takesIn_45, dX8_takesIn_46, dX8_takesIn_49, dX8_takesIn_50, qe_isub, dX8_takesIn_51, qe_iald, qe_ai, qe_ai6, dX8_takesIn_52, dX8_takesIn_53, dX8_takesIn_54]
    exact h2 hq v2 hv2 (fv.tr fv2)
  refine hG (fun pc => pc == 25) 60 _ _ _ _ _ _ ?_
  simp only [qe_x, qe_v, q_get, Bool.cond_false, Bool.cond_true, Nat.reduceAdd, Nat.reduceBEq, Nat.reduceLT, Nat.reduceLeDiff, Nat.add_zero, Nat.zero_add, Nat.le_refl, true_and, and_true, List.length_cons, List.length_nil, Option.some.injEq, exists_eq_left', exists_eq_left, exists_eq', reduceCtorEq, dX8_takesIn_0, qe_aload_0, qe_al, dX8_takesIn_1, qe_invv, ms_X8_takesIn_208, qe_c0, qe_c1, qe_c2, qe_c3, qe_c8, qe_c9, qe_cs, qe_cv, qe_tk, qe_tk0, qe_cat0, qe_cati, qe_catl, qe_catr, qe_catn, qe_ob, qe_cpy, qe_tl, qe_tl0, dX8_takesIn_4, dX8_takesIn_5, qe_get, qF_8_205, qe_gf, qe_fg, List.getElem?_cons_zero, List.getElem?_cons_succ, dX8_takesIn_8, qe_ldc, qe_pk, qCi_8_200, dX8_takesIn_10, qe_icmp_ne, q_br, q_tg, Int.reduceNatCast', Int.reduceAdd, Int.reduceToNat, Int.reduceLE, Int.reduceNeg, dX8_takesIn_13, dX8_takesIn_14, ms_X8_takesIn_201, dX8_takesIn_17, qe_iload_1, qe_il, dX8_takesIn_18, qe_iload_2, dX8_takesIn_19, qe_invs, ms_X8_takesIn_53, dX8_takesIn_22, qe_if_ne, dX8_takesIn_25, dX8_takesIn_26, ms_X8_takesIn_211, dX8_takesIn_29, qe_iconst, dX8_takesIn_30, qe_iret, qe_nar_i, qe_nar_0, qe_nar_1, dX8_takesIn_31, dX8_takesIn_32, qe_dup_i, qe_dup_r, dX8_takesIn_33, qF_8_197, dX8_takesIn_36, dX8_takesIn_37, qe_iadd, dX8_takesIn_38, qe_put, qe_pf, qe_pfF, qe_fp, qe_pv_i, qe_pv_l, qe_pv_a, qe_pv_o, qe_pv_z0, qe_pv_z1, List.set_cons_zero, List.set_cons_succ, dX8_takesIn_41, dX8_takesIn_42, qF_8_13, dX8_takesIn_45, dX8_takesIn_46, dX8_takesIn_49, dX8_takesIn_50, qe_isub, dX8_takesIn_51, qe_iald, qe_ai, qe_ai6, dX8_takesIn_52, dX8_takesIn_53, dX8_takesIn_54]
  refine ⟨⟨_, hW.1⟩, m_skips hW hL hsp htx (fun v hv fv => ?_)⟩
  rw [hs] at hv
  simp only [qe_x, qe_v, q_get, Bool.cond_false, Bool.cond_true, Nat.reduceAdd, Nat.reduceBEq, Nat.reduceLT, Nat.reduceLeDiff, Nat.add_zero, Nat.zero_add, Nat.le_refl, true_and, and_true, List.length_cons, List.length_nil, Option.some.injEq, exists_eq_left', exists_eq_left, exists_eq', reduceCtorEq, dX8_takesIn_0, qe_aload_0, qe_al, dX8_takesIn_1, qe_invv, ms_X8_takesIn_208, qe_c0, qe_c1, qe_c2, qe_c3, qe_c8, qe_c9, qe_cs, qe_cv, qe_tk, qe_tk0, qe_cat0, qe_cati, qe_catl, qe_catr, qe_catn, qe_ob, qe_cpy, qe_tl, qe_tl0, dX8_takesIn_4, dX8_takesIn_5, qe_get, qF_8_205, qe_gf, qe_fg, List.getElem?_cons_zero, List.getElem?_cons_succ, dX8_takesIn_8, qe_ldc, qe_pk, qCi_8_200, dX8_takesIn_10, qe_icmp_ne, q_br, q_tg, Int.reduceNatCast', Int.reduceAdd, Int.reduceToNat, Int.reduceLE, Int.reduceNeg, dX8_takesIn_13, dX8_takesIn_14, ms_X8_takesIn_201, dX8_takesIn_17, qe_iload_1, qe_il, dX8_takesIn_18, qe_iload_2, dX8_takesIn_19, qe_invs, ms_X8_takesIn_53, dX8_takesIn_22, qe_if_ne, dX8_takesIn_25, dX8_takesIn_26, ms_X8_takesIn_211, dX8_takesIn_29, qe_iconst, dX8_takesIn_30, qe_iret, qe_nar_i, qe_nar_0, qe_nar_1, dX8_takesIn_31, dX8_takesIn_32, qe_dup_i, qe_dup_r, dX8_takesIn_33, qF_8_197, dX8_takesIn_36, dX8_takesIn_37, qe_iadd, dX8_takesIn_38, qe_put, qe_pf, qe_pfF, qe_fp, qe_pv_i, qe_pv_l, qe_pv_a, qe_pv_o, qe_pv_z0, qe_pv_z1, List.set_cons_zero, List.set_cons_succ, dX8_takesIn_41, dX8_takesIn_42, qF_8_13, dX8_takesIn_45, dX8_takesIn_46, dX8_takesIn_49, dX8_takesIn_50, qe_isub, dX8_takesIn_51, qe_iald, qe_ai, qe_ai6, dX8_takesIn_52, dX8_takesIn_53, dX8_takesIn_54, hv.1]
  refine ⟨fun c => j25 v hv fv (fun q => c q.1), fun c => ⟨⟨_, hv.1⟩, m_here hv hL r.2 ?_⟩⟩
  have c := Decidable.not_not.mp c
  simp only [qe_x, qe_v, q_get, Bool.cond_false, Bool.cond_true, Nat.reduceAdd, Nat.reduceBEq, Nat.reduceLT, Nat.reduceLeDiff, Nat.add_zero, Nat.zero_add, Nat.le_refl, true_and, and_true, List.length_cons, List.length_nil, Option.some.injEq, exists_eq_left', exists_eq_left, exists_eq', reduceCtorEq, dX8_takesIn_0, qe_aload_0, qe_al, dX8_takesIn_1, qe_invv, ms_X8_takesIn_208, qe_c0, qe_c1, qe_c2, qe_c3, qe_c8, qe_c9, qe_cs, qe_cv, qe_tk, qe_tk0, qe_cat0, qe_cati, qe_catl, qe_catr, qe_catn, qe_ob, qe_cpy, qe_tl, qe_tl0, dX8_takesIn_4, dX8_takesIn_5, qe_get, qF_8_205, qe_gf, qe_fg, List.getElem?_cons_zero, List.getElem?_cons_succ, dX8_takesIn_8, qe_ldc, qe_pk, qCi_8_200, dX8_takesIn_10, qe_icmp_ne, q_br, q_tg, Int.reduceNatCast', Int.reduceAdd, Int.reduceToNat, Int.reduceLE, Int.reduceNeg, dX8_takesIn_13, dX8_takesIn_14, ms_X8_takesIn_201, dX8_takesIn_17, qe_iload_1, qe_il, dX8_takesIn_18, qe_iload_2, dX8_takesIn_19, qe_invs, ms_X8_takesIn_53, dX8_takesIn_22, qe_if_ne, dX8_takesIn_25, dX8_takesIn_26, ms_X8_takesIn_211, dX8_takesIn_29, qe_iconst, dX8_takesIn_30, qe_iret, qe_nar_i, qe_nar_0, qe_nar_1, dX8_takesIn_31, dX8_takesIn_32, qe_dup_i, qe_dup_r, dX8_takesIn_33, qF_8_197, dX8_takesIn_36, dX8_takesIn_37, qe_iadd, dX8_takesIn_38, qe_put, qe_pf, qe_pfF, qe_fp, qe_pv_i, qe_pv_l, qe_pv_a, qe_pv_o, qe_pv_z0, qe_pv_z1, List.set_cons_zero, List.set_cons_succ, dX8_takesIn_41, dX8_takesIn_42, qF_8_13, dX8_takesIn_45, dX8_takesIn_46, dX8_takesIn_49, dX8_takesIn_50, qe_isub, dX8_takesIn_51, qe_iald, qe_ai, qe_ai6, dX8_takesIn_52, dX8_takesIn_53, dX8_takesIn_54, hv.1]
  refine m_in (hrc_rng htx) ⟨by omega, by omega⟩ ⟨by omega, by omega⟩ ?_
  simp only [qe_x, qe_v, q_get, Bool.cond_false, Bool.cond_true, Nat.reduceAdd, Nat.reduceBEq, Nat.reduceLT, Nat.reduceLeDiff, Nat.add_zero, Nat.zero_add, Nat.le_refl, true_and, and_true, List.length_cons, List.length_nil, Option.some.injEq, exists_eq_left', exists_eq_left, exists_eq', reduceCtorEq, dX8_takesIn_0, qe_aload_0, qe_al, dX8_takesIn_1, qe_invv, ms_X8_takesIn_208, qe_c0, qe_c1, qe_c2, qe_c3, qe_c8, qe_c9, qe_cs, qe_cv, qe_tk, qe_tk0, qe_cat0, qe_cati, qe_catl, qe_catr, qe_catn, qe_ob, qe_cpy, qe_tl, qe_tl0, dX8_takesIn_4, dX8_takesIn_5, qe_get, qF_8_205, qe_gf, qe_fg, List.getElem?_cons_zero, List.getElem?_cons_succ, dX8_takesIn_8, qe_ldc, qe_pk, qCi_8_200, dX8_takesIn_10, qe_icmp_ne, q_br, q_tg, Int.reduceNatCast', Int.reduceAdd, Int.reduceToNat, Int.reduceLE, Int.reduceNeg, dX8_takesIn_13, dX8_takesIn_14, ms_X8_takesIn_201, dX8_takesIn_17, qe_iload_1, qe_il, dX8_takesIn_18, qe_iload_2, dX8_takesIn_19, qe_invs, ms_X8_takesIn_53, dX8_takesIn_22, qe_if_ne, dX8_takesIn_25, dX8_takesIn_26, ms_X8_takesIn_211, dX8_takesIn_29, qe_iconst, dX8_takesIn_30, qe_iret, qe_nar_i, qe_nar_0, qe_nar_1, dX8_takesIn_31, dX8_takesIn_32, qe_dup_i, qe_dup_r, dX8_takesIn_33, qF_8_197, dX8_takesIn_36, dX8_takesIn_37, qe_iadd, dX8_takesIn_38, qe_put, qe_pf, qe_pfF, qe_fp, qe_pv_i, qe_pv_l, qe_pv_a, qe_pv_o, qe_pv_z0, qe_pv_z1, List.set_cons_zero, List.set_cons_succ, dX8_takesIn_41, dX8_takesIn_42, qF_8_13, dX8_takesIn_45, dX8_takesIn_46, dX8_takesIn_49, dX8_takesIn_50, qe_isub, dX8_takesIn_51, qe_iald, qe_ai, qe_ai6, dX8_takesIn_52, dX8_takesIn_53, dX8_takesIn_54, hv.1]
  by_cases q : s < L ∧ lo ≤ tx s ∧ tx s ≤ hi
  · have e : hrc tx L s = (tx s : Int) := if_pos q.1
    rw [e, decide_eq_true (by omega), bI_t]
    obtain ⟨f, g2, g2'⟩ := hv.2.1
    have e2 : ∀ X, q_set v M X (M + 2) = v (M + 2) := fun X => q_set_n _ _ (by omega)
    have hb := htx s q.1
    simp only [qe_x, qe_v, q_get, Bool.cond_false, Bool.cond_true, Nat.reduceAdd, Nat.reduceBEq, Nat.reduceLT, Nat.reduceLeDiff, Nat.add_zero, Nat.zero_add, Nat.le_refl, true_and, and_true, List.length_cons, List.length_nil, Option.some.injEq, exists_eq_left', exists_eq_left, exists_eq', reduceCtorEq, dX8_takesIn_0, qe_aload_0, qe_al, dX8_takesIn_1, qe_invv, ms_X8_takesIn_208, qe_c0, qe_c1, qe_c2, qe_c3, qe_c8, qe_c9, qe_cs, qe_cv, qe_tk, qe_tk0, qe_cat0, qe_cati, qe_catl, qe_catr, qe_catn, qe_ob, qe_cpy, qe_tl, qe_tl0, dX8_takesIn_4, dX8_takesIn_5, qe_get, qF_8_205, qe_gf, qe_fg, List.getElem?_cons_zero, List.getElem?_cons_succ, dX8_takesIn_8, qe_ldc, qe_pk, qCi_8_200, dX8_takesIn_10, qe_icmp_ne, q_br, q_tg, Int.reduceNatCast', Int.reduceAdd, Int.reduceToNat, Int.reduceLE, Int.reduceNeg, dX8_takesIn_13, dX8_takesIn_14, ms_X8_takesIn_201, dX8_takesIn_17, qe_iload_1, qe_il, dX8_takesIn_18, qe_iload_2, dX8_takesIn_19, qe_invs, ms_X8_takesIn_53, dX8_takesIn_22, qe_if_ne, dX8_takesIn_25, dX8_takesIn_26, ms_X8_takesIn_211, dX8_takesIn_29, qe_iconst, dX8_takesIn_30, qe_iret, qe_nar_i, qe_nar_0, qe_nar_1, dX8_takesIn_31, dX8_takesIn_32, qe_dup_i, qe_dup_r, dX8_takesIn_33, qF_8_197, dX8_takesIn_36, dX8_takesIn_37, qe_iadd, dX8_takesIn_38, qe_put, qe_pf, qe_pfF, qe_fp, qe_pv_i, qe_pv_l, qe_pv_a, qe_pv_o, qe_pv_z0, qe_pv_z1, List.set_cons_zero, List.set_cons_succ, dX8_takesIn_41, dX8_takesIn_42, qF_8_13, dX8_takesIn_45, dX8_takesIn_46, dX8_takesIn_49, dX8_takesIn_50, qe_isub, dX8_takesIn_51, qe_iald, qe_ai, qe_ai6, dX8_takesIn_52, dX8_takesIn_53, dX8_takesIn_54, hv.1, q_set_s, q_set_ss, e2, g2, iI_add, iI_sub]
    rw [show (s : Int) + 1 - 1 = (s : Int) by omega]
    simp (disch := omega) only [iI_inN, iI_clN, true_and, g2' s q.1, iI_sub]
    refine ⟨fun _ => ?_, fun z => absurd i10 z⟩
    have := h1 c q.1 q.2.1 q.2.2 _ (hv.c st (s + 1) bk od) (fv.set (Or.inl rfl))
    rw [show ((tx s - lo : Nat) : Int) = (tx s : Int) - lo by omega] at this
    exact this
  · have hd : ¬ ((lo : Int) ≤ hrc tx L s ∧ hrc tx L s ≤ hi) := by
      unfold hrc
      split
      · omega
      · omega
    rw [decide_eq_false hd, bI_f]
    simp only [qe_x, qe_v, q_get, Bool.cond_false, Bool.cond_true, Nat.reduceAdd, Nat.reduceBEq, Nat.reduceLT, Nat.reduceLeDiff, Nat.add_zero, Nat.zero_add, Nat.le_refl, true_and, and_true, List.length_cons, List.length_nil, Option.some.injEq, exists_eq_left', exists_eq_left, exists_eq', reduceCtorEq, dX8_takesIn_0, qe_aload_0, qe_al, dX8_takesIn_1, qe_invv, ms_X8_takesIn_208, qe_c0, qe_c1, qe_c2, qe_c3, qe_c8, qe_c9, qe_cs, qe_cv, qe_tk, qe_tk0, qe_cat0, qe_cati, qe_catl, qe_catr, qe_catn, qe_ob, qe_cpy, qe_tl, qe_tl0, dX8_takesIn_4, dX8_takesIn_5, qe_get, qF_8_205, qe_gf, qe_fg, List.getElem?_cons_zero, List.getElem?_cons_succ, dX8_takesIn_8, qe_ldc, qe_pk, qCi_8_200, dX8_takesIn_10, qe_icmp_ne, q_br, q_tg, Int.reduceNatCast', Int.reduceAdd, Int.reduceToNat, Int.reduceLE, Int.reduceNeg, dX8_takesIn_13, dX8_takesIn_14, ms_X8_takesIn_201, dX8_takesIn_17, qe_iload_1, qe_il, dX8_takesIn_18, qe_iload_2, dX8_takesIn_19, qe_invs, ms_X8_takesIn_53, dX8_takesIn_22, qe_if_ne, dX8_takesIn_25, dX8_takesIn_26, ms_X8_takesIn_211, dX8_takesIn_29, qe_iconst, dX8_takesIn_30, qe_iret, qe_nar_i, qe_nar_0, qe_nar_1, dX8_takesIn_31, dX8_takesIn_32, qe_dup_i, qe_dup_r, dX8_takesIn_33, qF_8_197, dX8_takesIn_36, dX8_takesIn_37, qe_iadd, dX8_takesIn_38, qe_put, qe_pf, qe_pfF, qe_fp, qe_pv_i, qe_pv_l, qe_pv_a, qe_pv_o, qe_pv_z0, qe_pv_z1, List.set_cons_zero, List.set_cons_succ, dX8_takesIn_41, dX8_takesIn_42, qF_8_13, dX8_takesIn_45, dX8_takesIn_46, dX8_takesIn_49, dX8_takesIn_50, qe_isub, dX8_takesIn_51, qe_iald, qe_ai, qe_ai6, dX8_takesIn_52, dX8_takesIn_53, dX8_takesIn_54]
    exact ⟨fun z => absurd trivial z, fun _ => j25 v hv fv (fun z => q z.2)⟩
theorem m_takesOne {c : Nat} (hW : rdW w M L Z tx st sp bk od f4 f5 f6 f7 f8 f9) (hL : L ≤ 80) (hsp : sp ≤ L) (htx : ∀ i, i < L → tx i < 128) (hc : c < 128)
    (h1 : bk = iI (-2000000009) → skp tx L sp < L → tx (skp tx L sp) = c → ∀ w', rdW w' M L Z tx st (skp tx L sp + 1) bk od f4 f5 f6 f7 f8 f9 → rfr w w' M → post (some (.int (iI 1))) w')
    (h2 : ¬ (bk = iI (-2000000009) ∧ skp tx L sp < L ∧ tx (skp tx L sp) = c) → ∀ w', rdW w' M L Z tx st (skp tx L sp) bk od f4 f5 f6 f7 f8 f9 → rfr w w' M → post (some (.int (iI 0))) w') : T_X8_takesOne [.ref M, .int (iI c)] w sz post := by
  have r := skp_rng (tx := tx) hsp
  refine Ti_X8_takesOne (fun G hG => ?_)
  generalize hs : skp tx L sp = s at *
  have jn : ∀ v, rdW v M L Z tx st s bk od f4 f5 f6 f7 f8 f9 → rfr w v M → ¬ (bk = iI (-2000000009) ∧ s < L ∧ tx s = c) → G 26 [some (.ref M), some (.int (iI c)), none] [.int (iI 0)] v sz 0 := by
    intro v hv fv hq
    refine hG (fun pc => pc == 26) 60 _ _ _ _ _ _ ?_
    simp only [qe_x, qe_v, q_get, Bool.cond_false, Bool.cond_true, Nat.reduceAdd, Nat.reduceBEq, Nat.reduceLT, Nat.reduceLeDiff, Nat.add_zero, Nat.zero_add, Nat.le_refl, true_and, and_true, List.length_cons, List.length_nil, Option.some.injEq, exists_eq_left', exists_eq_left, exists_eq', reduceCtorEq, dX8_takesOne_0, qe_aload_0, qe_al, dX8_takesOne_1, qe_invv, ms_X8_takesOne_208, qe_c0, qe_c1, qe_c2, qe_c3, qe_c8, qe_c9, qe_cs, qe_cv, qe_tk, qe_tk0, qe_cat0, qe_cati, qe_catl, qe_catr, qe_catn, qe_ob, qe_cpy, qe_tl, qe_tl0, dX8_takesOne_4, dX8_takesOne_5, qe_get, qF_8_205, qe_gf, qe_fg, List.getElem?_cons_zero, List.getElem?_cons_succ, dX8_takesOne_8, qe_ldc, qe_pk, qCi_8_200, dX8_takesOne_10, qe_icmp_ne, q_br, q_tg, Int.reduceNatCast', Int.reduceAdd, Int.reduceToNat, Int.reduceLE, Int.reduceNeg, dX8_takesOne_13, dX8_takesOne_14, ms_X8_takesOne_201, dX8_takesOne_17, qe_iload_1, qe_il, dX8_takesOne_18, dX8_takesOne_21, qe_iconst, dX8_takesOne_22, qe_goto, dX8_takesOne_25, dX8_takesOne_26, qe_istore_2, q_st1, q_st2, q_clr, Value.category, Nat.reduceEqDiff, reduceIte, dX8_takesOne_27, dX8_takesOne_28, qe_dup_i, qe_dup_r, dX8_takesOne_29, qF_8_197, dX8_takesOne_32, qe_iload_2, dX8_takesOne_33, qe_if_eq, dX8_takesOne_36, dX8_takesOne_37, dX8_takesOne_40, dX8_takesOne_41, qe_iadd, dX8_takesOne_42, qe_put, qe_pf, qe_pfF, qe_fp, qe_pv_i, qe_pv_l, qe_pv_a, qe_pv_o, qe_pv_z0, qe_pv_z1, List.set_cons_zero, List.set_cons_succ, dX8_takesOne_45, dX8_takesOne_46, qe_iret, qe_nar_i, qe_nar_0, qe_nar_1, hv.1, iI_add]
    refine ⟨fun _ => h2 hq _ (hv.c st (s + 0) bk od) (fv.set (Or.inl rfl)), fun z => absurd trivial z⟩
  have jy : ∀ v, rdW v M L Z tx st s bk od f4 f5 f6 f7 f8 f9 → rfr w v M → bk = iI (-2000000009) → s < L → tx s = c → G 26 [some (.ref M), some (.int (iI c)), none] [.int (iI 1)] v sz 0 := by
    intro v hv fv q1 q2 q3
    refine hG (fun pc => pc == 26) 60 _ _ _ _ _ _ ?_
    simp only [qe_x, qe_v, q_get, Bool.cond_false, Bool.cond_true, Nat.reduceAdd, Nat.reduceBEq, Nat.reduceLT, Nat.reduceLeDiff, Nat.add_zero, Nat.zero_add, Nat.le_refl, true_and, and_true, List.length_cons, List.length_nil, Option.some.injEq, exists_eq_left', exists_eq_left, exists_eq', reduceCtorEq, dX8_takesOne_0, qe_aload_0, qe_al, dX8_takesOne_1, qe_invv, ms_X8_takesOne_208, qe_c0, qe_c1, qe_c2, qe_c3, qe_c8, qe_c9, qe_cs, qe_cv, qe_tk, qe_tk0, qe_cat0, qe_cati, qe_catl, qe_catr, qe_catn, qe_ob, qe_cpy, qe_tl, qe_tl0, dX8_takesOne_4, dX8_takesOne_5, qe_get, qF_8_205, qe_gf, qe_fg, List.getElem?_cons_zero, List.getElem?_cons_succ, dX8_takesOne_8, qe_ldc, qe_pk, qCi_8_200, dX8_takesOne_10, qe_icmp_ne, q_br, q_tg, Int.reduceNatCast', Int.reduceAdd, Int.reduceToNat, Int.reduceLE, Int.reduceNeg, dX8_takesOne_13, dX8_takesOne_14, ms_X8_takesOne_201, dX8_takesOne_17, qe_iload_1, qe_il, dX8_takesOne_18, dX8_takesOne_21, qe_iconst, dX8_takesOne_22, qe_goto, dX8_takesOne_25, dX8_takesOne_26, qe_istore_2, q_st1, q_st2, q_clr, Value.category, Nat.reduceEqDiff, reduceIte, dX8_takesOne_27, dX8_takesOne_28, qe_dup_i, qe_dup_r, dX8_takesOne_29, qF_8_197, dX8_takesOne_32, qe_iload_2, dX8_takesOne_33, qe_if_eq, dX8_takesOne_36, dX8_takesOne_37, dX8_takesOne_40, dX8_takesOne_41, qe_iadd, dX8_takesOne_42, qe_put, qe_pf, qe_pfF, qe_fp, qe_pv_i, qe_pv_l, qe_pv_a, qe_pv_o, qe_pv_z0, qe_pv_z1, List.set_cons_zero, List.set_cons_succ, dX8_takesOne_45, dX8_takesOne_46, qe_iret, qe_nar_i, qe_nar_0, qe_nar_1, hv.1, iI_add]
    refine ⟨fun z => absurd z i10, fun _ => h1 q1 q2 q3 _ (hv.c st (s + 1) bk od) (fv.set (Or.inl rfl))⟩
  refine hG (fun pc => pc == 26) 60 _ _ _ _ _ _ ?_
  simp only [qe_x, qe_v, q_get, Bool.cond_false, Bool.cond_true, Nat.reduceAdd, Nat.reduceBEq, Nat.reduceLT, Nat.reduceLeDiff, Nat.add_zero, Nat.zero_add, Nat.le_refl, true_and, and_true, List.length_cons, List.length_nil, Option.some.injEq, exists_eq_left', exists_eq_left, exists_eq', reduceCtorEq, dX8_takesOne_0, qe_aload_0, qe_al, dX8_takesOne_1, qe_invv, ms_X8_takesOne_208, qe_c0, qe_c1, qe_c2, qe_c3, qe_c8, qe_c9, qe_cs, qe_cv, qe_tk, qe_tk0, qe_cat0, qe_cati, qe_catl, qe_catr, qe_catn, qe_ob, qe_cpy, qe_tl, qe_tl0, dX8_takesOne_4, dX8_takesOne_5, qe_get, qF_8_205, qe_gf, qe_fg, List.getElem?_cons_zero, List.getElem?_cons_succ, dX8_takesOne_8, qe_ldc, qe_pk, qCi_8_200, dX8_takesOne_10, qe_icmp_ne, q_br, q_tg, Int.reduceNatCast', Int.reduceAdd, Int.reduceToNat, Int.reduceLE, Int.reduceNeg, dX8_takesOne_13, dX8_takesOne_14, ms_X8_takesOne_201, dX8_takesOne_17, qe_iload_1, qe_il, dX8_takesOne_18, dX8_takesOne_21, qe_iconst, dX8_takesOne_22, qe_goto, dX8_takesOne_25, dX8_takesOne_26, qe_istore_2, q_st1, q_st2, q_clr, Value.category, Nat.reduceEqDiff, reduceIte, dX8_takesOne_27, dX8_takesOne_28, qe_dup_i, qe_dup_r, dX8_takesOne_29, qF_8_197, dX8_takesOne_32, qe_iload_2, dX8_takesOne_33, qe_if_eq, dX8_takesOne_36, dX8_takesOne_37, dX8_takesOne_40, dX8_takesOne_41, qe_iadd, dX8_takesOne_42, qe_put, qe_pf, qe_pfF, qe_fp, qe_pv_i, qe_pv_l, qe_pv_a, qe_pv_o, qe_pv_z0, qe_pv_z1, List.set_cons_zero, List.set_cons_succ, dX8_takesOne_45, dX8_takesOne_46, qe_iret, qe_nar_i, qe_nar_0, qe_nar_1]
  refine ⟨⟨_, hW.1⟩, m_skips hW hL hsp htx (fun v hv fv => ?_)⟩
  rw [hs] at hv
  simp only [qe_x, qe_v, q_get, Bool.cond_false, Bool.cond_true, Nat.reduceAdd, Nat.reduceBEq, Nat.reduceLT, Nat.reduceLeDiff, Nat.add_zero, Nat.zero_add, Nat.le_refl, true_and, and_true, List.length_cons, List.length_nil, Option.some.injEq, exists_eq_left', exists_eq_left, exists_eq', reduceCtorEq, dX8_takesOne_0, qe_aload_0, qe_al, dX8_takesOne_1, qe_invv, ms_X8_takesOne_208, qe_c0, qe_c1, qe_c2, qe_c3, qe_c8, qe_c9, qe_cs, qe_cv, qe_tk, qe_tk0, qe_cat0, qe_cati, qe_catl, qe_catr, qe_catn, qe_ob, qe_cpy, qe_tl, qe_tl0, dX8_takesOne_4, dX8_takesOne_5, qe_get, qF_8_205, qe_gf, qe_fg, List.getElem?_cons_zero, List.getElem?_cons_succ, dX8_takesOne_8, qe_ldc, qe_pk, qCi_8_200, dX8_takesOne_10, qe_icmp_ne, q_br, q_tg, Int.reduceNatCast', Int.reduceAdd, Int.reduceToNat, Int.reduceLE, Int.reduceNeg, dX8_takesOne_13, dX8_takesOne_14, ms_X8_takesOne_201, dX8_takesOne_17, qe_iload_1, qe_il, dX8_takesOne_18, dX8_takesOne_21, qe_iconst, dX8_takesOne_22, qe_goto, dX8_takesOne_25, dX8_takesOne_26, qe_istore_2, q_st1, q_st2, q_clr, Value.category, Nat.reduceEqDiff, reduceIte, dX8_takesOne_27, dX8_takesOne_28, qe_dup_i, qe_dup_r, dX8_takesOne_29, qF_8_197, dX8_takesOne_32, qe_iload_2, dX8_takesOne_33, qe_if_eq, dX8_takesOne_36, dX8_takesOne_37, dX8_takesOne_40, dX8_takesOne_41, qe_iadd, dX8_takesOne_42, qe_put, qe_pf, qe_pfF, qe_fp, qe_pv_i, qe_pv_l, qe_pv_a, qe_pv_o, qe_pv_z0, qe_pv_z1, List.set_cons_zero, List.set_cons_succ, dX8_takesOne_45, dX8_takesOne_46, qe_iret, qe_nar_i, qe_nar_0, qe_nar_1, hv.1]
  refine ⟨fun q => jn v hv fv (fun z => q z.1), fun q => ⟨⟨_, hv.1⟩, m_here hv hL r.2 ?_⟩⟩
  have q := Decidable.not_not.mp q
  have hr := hrc_rng (sp := s) htx
  simp only [qe_x, qe_v, q_get, Bool.cond_false, Bool.cond_true, Nat.reduceAdd, Nat.reduceBEq, Nat.reduceLT, Nat.reduceLeDiff, Nat.add_zero, Nat.zero_add, Nat.le_refl, true_and, and_true, List.length_cons, List.length_nil, Option.some.injEq, exists_eq_left', exists_eq_left, exists_eq', reduceCtorEq, dX8_takesOne_0, qe_aload_0, qe_al, dX8_takesOne_1, qe_invv, ms_X8_takesOne_208, qe_c0, qe_c1, qe_c2, qe_c3, qe_c8, qe_c9, qe_cs, qe_cv, qe_tk, qe_tk0, qe_cat0, qe_cati, qe_catl, qe_catr, qe_catn, qe_ob, qe_cpy, qe_tl, qe_tl0, dX8_takesOne_4, dX8_takesOne_5, qe_get, qF_8_205, qe_gf, qe_fg, List.getElem?_cons_zero, List.getElem?_cons_succ, dX8_takesOne_8, qe_ldc, qe_pk, qCi_8_200, dX8_takesOne_10, qe_icmp_ne, q_br, q_tg, Int.reduceNatCast', Int.reduceAdd, Int.reduceToNat, Int.reduceLE, Int.reduceNeg, dX8_takesOne_13, dX8_takesOne_14, ms_X8_takesOne_201, dX8_takesOne_17, qe_iload_1, qe_il, dX8_takesOne_18, dX8_takesOne_21, qe_iconst, dX8_takesOne_22, qe_goto, dX8_takesOne_25, dX8_takesOne_26, qe_istore_2, q_st1, q_st2, q_clr, Value.category, Nat.reduceEqDiff, reduceIte, dX8_takesOne_27, dX8_takesOne_28, qe_dup_i, qe_dup_r, dX8_takesOne_29, qF_8_197, dX8_takesOne_32, qe_iload_2, dX8_takesOne_33, qe_if_eq, dX8_takesOne_36, dX8_takesOne_37, dX8_takesOne_40, dX8_takesOne_41, qe_iadd, dX8_takesOne_42, qe_put, qe_pf, qe_pfF, qe_fp, qe_pv_i, qe_pv_l, qe_pv_a, qe_pv_o, qe_pv_z0, qe_pv_z1, List.set_cons_zero, List.set_cons_succ, dX8_takesOne_45, dX8_takesOne_46, qe_iret, qe_nar_i, qe_nar_0, qe_nar_1, hv.1]
  simp (disch := omega) only [iI_eq]
  refine ⟨fun z => jn v hv fv (fun z2 => z (by unfold hrc; rw [if_pos z2.2.1]; omega)), fun z => ?_⟩
  have z := Decidable.not_not.mp z
  unfold hrc at z
  by_cases q2 : s < L
  · rw [if_pos q2] at z
    exact jy v hv fv q q2 (by omega)
  · rw [if_neg q2] at z
    omega
end
