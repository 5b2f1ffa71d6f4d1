/-! ===== Model: the page ===== -/
/-- the first 40 numbers of a state -/
def pgH (S : QSt) (E : QLe) (c : Nat) : Int64 :=
  if c < 12 then (if c % 3 = 0 then lI ((sFm S (c / 3)).1 : Int) else if c % 3 = 1 then lI (((sFm S (c / 3)).2.1 : Int) - 10) else lI (((sFm S (c / 3)).2.2 : Int) - 10))
  else if c < 20 then lI (sFn S (c - 12) : Int) else if c < 28 then lI (sVa S (c - 20)) else if c = 28 then lI (sMo S : Int) else if c = 29 then lI (sBi S : Int)
  else if c = 30 then (sSe S).toInt64 else if c = 31 then (sNx S).toInt64 else if c = 32 then lI (eSz E : Int) else eSu E (c - 33)
/-- the numbers of a record -/
def pgR (r : QRe) (j : Nat) : Int64 :=
  if j = 0 then (rNu r).toInt64 else if j = 1 then lI (rK r : Int) else if j = 2 then lI (rT r : Int) else if j = 3 then lI (rA r : Int) else if j = 4 then lI (rB r : Int)
  else if j = 5 then lI ((rF r).1 : Int) else if j = 6 then lI (((rF r).2.1 : Int) - 10) else if j = 7 then lI (((rF r).2.2 : Int) - 10)
  else if j = 8 then lI (lowN (rN r) (rD r * 1048576)) else if j = 9 then lI (lowD (rN r) (rD r * 1048576)) else if j = 10 then lI (rLw r) else if j = 11 then lI (rUp r)
  else if j = 12 then lI (rMo r : Int) else if j = 13 then lI (rBi r : Int) else if j = 14 then lI (rDr r) else if j = 15 then lI (rOu r) else lI (rFl r)
def blk (f : Nat → Int64) (o : Nat) (S : QSt) (E : QLe) : Prop := (∀ c, c < 40 → f (o + c) = pgH S E c) ∧ ∀ i, i < eSz E → ∀ j, j < 17 → f (o + 40 + 17 * i + j) = pgR (eRe E i) j
theorem blk.mv {f g : Nat → Int64} {o o' : Nat} {S : QSt} {E : QLe} (h : blk f o S E) (hE : eSz E ≤ 64) (e : ∀ c, c < 1128 → g (o' + c) = f (o + c)) : blk g o' S E := by
  refine ⟨fun c hc => ?_, fun i hi j hj => ?_⟩
  · rw [e c (by omega)]; exact h.1 c hc
  · have := e (40 + 17 * i + j) (by omega)
    rw [show o' + 40 + 17 * i + j = o' + (40 + 17 * i + j) by omega, this, show o + (40 + 17 * i + j) = o + 40 + 17 * i + j by omega]
    exact h.2 i hi j hj
/-- what a page holds of a state of the bench -/
def pgY (f : Nat → Int64) (y : QY) : Prop := blk f 0 (yS y) (yE y) ∧ ∀ i, i < (yH y).1 → blk f (1128 * (i + 1)) ((yH y).2 i).1 ((yH y).2 i).2
/-- the small arrays of the model -/
def mAr (w : QWd) (M : Nat) (y : QY) : Prop := (∃ f, w (M + 2) = some (aInt 80 f) ∧ ∀ i, i < yL y → f i = iI (yT y i)) ∧ (∃ f, w (M + 3) = some (aLng 8 f)) ∧ (∃ f, w (M + 4) = some (aInt 80 f)) ∧ (∃ f, w (M + 5) = some (aInt 80 f)) ∧ (∃ f, w (M + 6) = some (aInt 80 f)) ∧ (∃ f, w (M + 7) = some (aInt 80 f)) ∧ (∃ f, w (M + 8) = some (aInt 80 f)) ∧ (∃ f, w (M + 9) = some (aInt 3 f)) ∧ (∃ f, w (M + 10) = some (aInt 80 f))
def mAt (w : QWd) (M : Nat) (y : QY) : Prop := (∃ lo up ov um us un xu xd ld st sp bk od en, w M = some (cMo M (iI (yH y).1) (iI (yP y)) (iI (yL y)) lo up ov um us un xu xd ld st sp bk od en)) ∧ (∃ f, w (M + 1) = some (aLng 7896 f) ∧ pgY f y) ∧ mAr w M y
theorem mAr.fr {w w' : QWd} {M b n : Nat} {y : QY} (h : mAr w M y) (hf : fr w w' b n) (hd : M + 11 ≤ b ∨ b + n ≤ M + 2) : mAr w' M y := by
  obtain ⟨⟨f, a, a'⟩, ⟨f3, a3⟩, ⟨f4, a4⟩, ⟨f5, a5⟩, ⟨f6, a6⟩, ⟨f7, a7⟩, ⟨f8, a8⟩, ⟨f9, a9⟩, ⟨f10, a10⟩⟩ := h
  exact ⟨⟨f, by rw [hf _ (by omega)]; exact a, a'⟩, ⟨f3, by rw [hf _ (by omega)]; exact a3⟩, ⟨f4, by rw [hf _ (by omega)]; exact a4⟩, ⟨f5, by rw [hf _ (by omega)]; exact a5⟩, ⟨f6, by rw [hf _ (by omega)]; exact a6⟩, ⟨f7, by rw [hf _ (by omega)]; exact a7⟩, ⟨f8, by rw [hf _ (by omega)]; exact a8⟩, ⟨f9, by rw [hf _ (by omega)]; exact a9⟩, ⟨f10, by rw [hf _ (by omega)]; exact a10⟩⟩
section
variable {M : Nat} {rm wy ty ov um us un st sp bk od en : Int32} {lo0 up0 xu xd ld : Int64} {w : QWd} {sz : Nat} {post : QPo} {f : Nat → Int64}
theorem m_part {k j : Nat} (hw : w M = some (cMo M rm wy ty lo0 up0 ov um us un xu xd ld st sp bk od en)) (hp : w (M + 1) = some (aLng 7896 f)) (hk : k < 4) (hj : j < 3) (h : post (some (.int (f (3 * k + j)).toInt32)) w) : T_X8_part [.ref M, .int (iI k), .int (iI j)] w sz post := by
  refine Ti_X8_part (fun G hG => hG (fun _ => false) 30 _ _ _ _ _ _ ?_)
  simp only [qe_x, qe_v, q_get, Bool.cond_false, Bool.cond_true, Nat.reduceAdd, Nat.reduceBEq, Nat.reduceLT, Nat.reduceLeDiff, Nat.add_zero, Nat.zero_add, Nat.le_refl, true_and, and_true, List.length_cons, List.length_nil, Option.some.injEq, exists_eq_left', exists_eq_left, exists_eq', reduceCtorEq, dX8_part_0, qe_aload_0, qe_al, dX8_part_1, qe_get, qF_8_7, qe_gf, qe_fg, List.getElem?_cons_zero, List.getElem?_cons_succ, dX8_part_4, qe_iconst, dX8_part_5, dX8_part_6, qe_iload_1, qe_il, dX8_part_7, qe_imul, dX8_part_8, qe_iadd, dX8_part_9, qe_iload_2, dX8_part_10, dX8_part_11, qe_lald, qe_aj, dX8_part_12, qe_l2i, dX8_part_13, qe_iret, qe_nar_i, qe_nar_0, qe_nar_1, hw, hp, iI_add, iI_mul]
  rw [show (0 : Int) + 3 * (k : Int) + j = ((3 * k + j : Nat) : Int) by omega]
  simp (disch := omega) only [iI_inN, iI_clN, true_and]
  exact h
theorem m_formatIn {r : Nat} (hw : w M = some (cMo M rm wy ty lo0 up0 ov um us un xu xd ld st sp bk od en)) (hp : w (M + 1) = some (aLng 7896 f)) (hr : r < 8) (h : post (some (.int (f (12 + r)).toInt32)) w) : T_X8_formatIn [.ref M, .int (iI r)] w sz post := by
  refine Ti_X8_formatIn (fun G hG => hG (fun _ => false) 30 _ _ _ _ _ _ ?_)
  simp only [qe_x, qe_v, q_get, Bool.cond_false, Bool.cond_true, Nat.reduceAdd, Nat.reduceBEq, Nat.reduceLT, Nat.reduceLeDiff, Nat.add_zero, Nat.zero_add, Nat.le_refl, true_and, and_true, List.length_cons, List.length_nil, Option.some.injEq, exists_eq_left', exists_eq_left, exists_eq', reduceCtorEq, dX8_formatIn_0, qe_aload_0, qe_al, dX8_formatIn_1, qe_get, qF_8_7, qe_gf, qe_fg, List.getElem?_cons_zero, List.getElem?_cons_succ, dX8_formatIn_4, qe_bipush, Int.reduceLE, Int.reduceLT, Int.reduceNeg, dX8_formatIn_6, qe_iload_1, qe_il, dX8_formatIn_7, qe_iadd, dX8_formatIn_8, qe_lald, qe_aj, dX8_formatIn_9, qe_l2i, dX8_formatIn_10, qe_iret, qe_nar_i, qe_nar_0, qe_nar_1, hw, hp, iI_add]
  rw [show (12 : Int) + (r : Int) = ((12 + r : Nat) : Int) by omega]
  simp (disch := omega) only [iI_inN, iI_clN, true_and]
  exact h
end
