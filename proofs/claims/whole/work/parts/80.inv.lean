/-! ===== what holds of every state ===== -/
theorem nlw_top {p lo hi : Nat} (hF : Fok p lo hi) {n d : Int} (hN : Nok n d) : -1048575 ≤ nlw p lo hi n d ∧ nlw p lo hi n d ≤ 1048575 := by
  have ht := ftop_rng hF
  obtain ⟨n1, n2, d1, d2⟩ := hN
  unfold nlw
  split
  · omega
  split
  · omega
  next c1 c2 =>
  have hu : (0 : Int) < 1 * d * 1024 := by omega
  have r1 : -ftop p hi ≤ n / (1 * d * 1024) ∧ n / (1 * d * 1024) ≤ ftop p hi := by
    refine ⟨(Int.le_ediv_iff_mul_le hu).mpr ?_, ?_⟩
    · rw [Int.one_mul, ← Int.mul_assoc]; omega
    · have := (Int.ediv_lt_iff_lt_mul (a := n) (b := ftop p hi + 1) hu).mpr (by
        rw [Int.add_mul, Int.one_mul, ← Int.mul_assoc]; omega)
      omega
  have g1 := ffl_ge hF r1.1
  have g2 := ffl_le hF (v := n / (1 * d * 1024)) (by omega) (by omega)
  omega
theorem nup_top {p lo hi : Nat} (hF : Fok p lo hi) {n d : Int} (hN : Nok n d) : -1048575 ≤ nup p lo hi n d ∧ nup p lo hi n d ≤ 1048575 := by
  have ht := ftop_rng hF
  obtain ⟨n1, n2, d1, d2⟩ := hN
  unfold nup
  split
  · omega
  split
  · omega
  next c1 c2 =>
  have hu : (0 : Int) < 1 * d * 1024 := by omega
  have m3 : -ftop p hi * d * 1024 = -(ftop p hi * d * 1024) := by rw [Int.neg_mul, Int.neg_mul]
  have r1 : -ftop p hi ≤ -n / (1 * d * 1024) ∧ -n / (1 * d * 1024) ≤ ftop p hi := by
    refine ⟨(Int.le_ediv_iff_mul_le hu).mpr ?_, ?_⟩
    · rw [Int.one_mul, ← Int.mul_assoc]; omega
    · have := (Int.ediv_lt_iff_lt_mul (a := -n) (b := ftop p hi + 1) hu).mpr (by
        rw [Int.add_mul, Int.one_mul, ← Int.mul_assoc]; omega)
      omega
  have g1 := ffl_ge hF r1.1
  have g2 := ffl_le hF (v := -n / (1 * d * 1024)) (by omega) (by omega)
  omega
def vOk (S : QSt) : Prop := ∀ i, i < 8 → -1048575 ≤ sVa S i ∧ sVa S i ≤ 1048575
def eLo (E : QLe) : Prop := ∀ i, i < eSz E → rLo (eRe E i)
def seG (S : QSt) (E : QLe) : Prop := sOk S ∧ vOk S ∧ eOk E ∧ eLo E ∧ eSz E ≤ 64
def hG (H : QHi) : Prop := H.1 ≤ 6 ∧ ∀ i, i < H.1 → seG (H.2 i).1 (H.2 i).2
def yGd (y : QY) : Prop := seG (yS y) (yE y) ∧ hG (yH y) ∧ yL y ≤ 80 ∧ (∀ i, i < yL y → yT y i < 128) ∧ yP y ≤ 2 ∧ gB (yQ y)
theorem yGd.ok {y : QY} (h : yGd y) : yOk y := by
  obtain ⟨⟨a1, a2, a3, a4, a5⟩, ⟨b1, b2⟩, c1, c2, c3, c4⟩ := h
  exact ⟨a1, a3, a5, b1, fun i hi => by obtain ⟨d1, d2, d3, d4, d5⟩ := b2 i hi; exact ⟨d1, d3, d5⟩, c1, c2, c3, c4⟩
theorem hPush_g {H : QHi} {S : QSt} {E : QLe} (h : hG H) (hs : seG S E) : hG (hPush H (S, E)) := by
  obtain ⟨h3, h4⟩ := h
  refine ⟨?_, fun i hi => ?_⟩
  · show (if H.1 < 6 then H.1 + 1 else 6) ≤ 6
    split <;> omega
  · change i < (if H.1 < 6 then H.1 + 1 else 6) at hi
    show seG (if H.1 < 6 then (if i = H.1 then (S, E) else H.2 i) else (if i = 5 then (S, E) else H.2 (i + 1))).1 (if H.1 < 6 then (if i = H.1 then (S, E) else H.2 i) else (if i = 5 then (S, E) else H.2 (i + 1))).2
    by_cases q : H.1 < 6
    · rw [if_pos q] at hi
      rw [if_pos q]
      by_cases q2 : i = H.1
      · rw [if_pos q2]; exact hs
      · rw [if_neg q2]; exact h4 i (by omega)
    · rw [if_neg q] at hi
      rw [if_neg q]
      by_cases q2 : i = 5
      · rw [if_pos q2]; exact hs
      · rw [if_neg q2]; exact h4 (i + 1) (by omega)
theorem gd_push {y : QY} {S : QSt} {E : QLe} (h : yGd y) (hs : seG S E) : yGd (S, E, (yPush y).2.2) := ⟨hs, hPush_g h.2.1 h.1, h.2.2⟩
theorem opS_v {S : QSt} {k t x y : Nat} (hO : sOk S) (hv : vOk S) (hc : Cok k t x y) (hq : ¬ (k = 5 ∧ sVa S y = 0)) : vOk (opS S k t x y) := by
  obtain ⟨c1, c2, c3, c4⟩ := id hc
  obtain ⟨o1, o2, o3, o4, o5, o6⟩ := id hO
  have hF : Fok3 (opF S t) := o1 _ (o2 t (by omega))
  have hN : Nok (opN S k t x y) (opD S k y) := oN_ok (o3 x (by omega)) (o3 y (by omega)) (o3 t (by omega)) hq
  have hl := nlw_top hF hN
  have hu := nup_top hF hN
  intro i hi
  show -1048575 ≤ (if i = t then opO S k t x y else sVa S i) ∧ (if i = t then opO S k t x y else sVa S i) ≤ 1048575
  split
  · unfold opO npk
    split
    · exact hu
    · exact hl
  · exact hv i hi
theorem leE_P {P : QRe → Prop} {E : QLe} {r : QRe} (h64 : eSz E ≤ 64) (h : ∀ i, i < eSz E → P (eRe E i)) (hr : P r) : ∀ i, i < eSz (leE E r) → P (eRe (leE E r) i) := by
  intro i hi
  change i < (if eSz E < 64 then eSz E + 1 else 64) at hi
  show P (if eSz E < 64 then (if i = eSz E then r else eRe E i) else (if i = 63 then r else eRe E (i + 1)))
  by_cases q : eSz E < 64
  · rw [if_pos q] at hi ⊢
    by_cases q2 : i = eSz E
    · rw [if_pos q2]; exact hr
    · rw [if_neg q2]; exact h i (by omega)
  · rw [if_neg q] at hi ⊢
    by_cases q2 : i = 63
    · rw [if_pos q2]; exact hr
    · rw [if_neg q2]; exact h (i + 1) (by omega)
theorem op_g {S : QSt} {E : QLe} {k t x y : Nat} (h : seG S E) (hc : Cok k t x y) (hq : ¬ (k = 5 ∧ sVa S y = 0)) : seG (opS S k t x y) (leE E (opR S k t x y)) := by
  obtain ⟨a1, a2, a3, a4, a5⟩ := h
  exact ⟨opS_ok a1 hc hq, opS_v a1 a2 hc hq, leE_P a5 a3 (opR_ok a1 hc hq), leE_P a5 a4 (opR_lo a1 hc hq), leE_64 a5⟩
theorem exL_g {s : Nat → QSp} {lg : Bool} : ∀ (l : List Nat) (dn : Nat) (S : QSt) (E : QLe), (∀ i, i ∈ l → Cok (s i).2.1.1 (s i).2.1.2.1 (s i).2.1.2.2.1 (s i).2.1.2.2.2) → seG S E → seG (exL s lg l dn S E).2.2.1 (exL s lg l dn S E).2.2.2 ∧ (exL s lg l dn S E).2.1 ≤ 2 ∧ (lg = false → (exL s lg l dn S E).2.2.2 = E) := by
  intro l
  induction l with
  | nil => intro dn S E hc h; exact ⟨h, Nat.zero_le _, fun _ => rfl⟩
  | cons i R ih =>
    intro dn S E hc h
    rw [exL_c]
    by_cases c1 : dn = 100
    · rw [if_pos c1]; exact ⟨h, by show 1 ≤ 2; omega, fun _ => rfl⟩
    · rw [if_neg c1]
      by_cases c2 : (s i).2.1.1 = 5 ∧ sVa S (s i).2.1.2.2.2 = 0
      · rw [if_pos c2]; exact ⟨h, by show 2 ≤ 2; omega, fun _ => rfl⟩
      · rw [if_neg c2]
        have g := op_g h (hc i (List.mem_cons_self ..)) c2
        cases lg with
        | true =>
          obtain ⟨x1, x2, -⟩ := ih (dn + 1) _ _ (fun j hj => hc j (List.mem_cons_of_mem _ hj)) g
          exact ⟨x1, x2, fun z => absurd z (by decide)⟩
        | false =>
          obtain ⟨a1, a2, a3, a4, a5⟩ := h
          exact ih (dn + 1) _ _ (fun j hj => hc j (List.mem_cons_of_mem _ hj)) ⟨g.1, g.2.1, a3, a4, a5⟩
theorem ops_cok {n : Nat} {s : Nat → QSp} {lv : Nat → Nat} (hW : pWF n s lv) : ∀ i, i ∈ opsL s (trT s 0 n) → Cok (s i).2.1.1 (s i).2.1.2.1 (s i).2.1.2.2.1 (s i).2.1.2.2.2 := by
  intro i hi
  unfold opsL at hi
  obtain ⟨h1, h2⟩ := List.mem_filter.mp hi
  have h3 := trT_mem h1
  rw [beq_iff_eq] at h2
  rcases hW i h3.2 with ⟨-, -, q⟩ | ⟨q, -⟩ | ⟨q, -⟩
  · exact q
  · omega
  · omega
theorem yRun_g {y : QY} (h : yGd y) (hn : (yRd y).1 = none) : seG (yRun y).2.2.1 (yRun y).2.2.2 ∧ (yRun y).2.1 ≤ 2 := by
  obtain ⟨lv, hW⟩ := yRd_wf h.ok hn
  obtain ⟨a, b, -⟩ := exL_g (lg := true) (yOps y) 0 (yS y) (yE y) (ops_cok hW) h.1
  exact ⟨a, b⟩
/-- every call keeps it -/
theorem gd_setFormat {y : QY} {f p q g : Int} (h : yGd y) : yGd (aSetFormat y f p q g).2 := by
  unfold aSetFormat
  split
  · next c =>
    obtain ⟨a1, a2, a3, a4, a5⟩ := h.1
    refine gd_push h ⟨⟨fun i hi => ?_, a1.2.1, fun i hi => ?_, a1.2.2.2⟩, fun i hi => ?_, a3, a4, a5⟩
    · show Fok3 (if i = f.toNat then (p.toNat, (q + 10).toNat, (g + 10).toNat) else sFm (yS y) i)
      by_cases e : i = f.toNat
      · rw [if_pos e]
        exact ⟨by show 1 ≤ p.toNat; omega, by show (q + 10).toNat ≤ 10; omega, by show 10 ≤ (g + 10).toNat; omega, by show p.toNat + (g + 10).toNat ≤ 20; omega⟩
      · rw [if_neg e]; exact a1.1 i hi
    · show -1048576 ≤ (if i < 8 ∧ sFn (yS y) i = f.toNat then 0 else sVa (yS y) i) ∧ (if i < 8 ∧ sFn (yS y) i = f.toNat then 0 else sVa (yS y) i) ≤ 1048576
      have := a1.2.2.1 i hi
      split <;> omega
    · show -1048575 ≤ (if i < 8 ∧ sFn (yS y) i = f.toNat then 0 else sVa (yS y) i) ∧ (if i < 8 ∧ sFn (yS y) i = f.toNat then 0 else sVa (yS y) i) ≤ 1048575
      have := a2 i hi
      split <;> omega
  · exact h
theorem gd_setRegister {y : QY} {r f : Int} (h : yGd y) : yGd (aSetRegister y r f).2 := by
  unfold aSetRegister
  split
  · next c =>
    obtain ⟨a1, a2, a3, a4, a5⟩ := h.1
    refine gd_push h ⟨⟨a1.1, fun i hi => ?_, fun i hi => ?_, a1.2.2.2⟩, fun i hi => ?_, a3, a4, a5⟩
    · show (if i = r.toNat then f.toNat else sFn (yS y) i) < 4
      have := a1.2.1 i hi
      split <;> omega
    · show -1048576 ≤ (if i = r.toNat then 0 else sVa (yS y) i) ∧ (if i = r.toNat then 0 else sVa (yS y) i) ≤ 1048576
      have := a1.2.2.1 i hi
      split <;> omega
    · show -1048575 ≤ (if i = r.toNat then 0 else sVa (yS y) i) ∧ (if i = r.toNat then 0 else sVa (yS y) i) ≤ 1048575
      have := a2 i hi
      split <;> omega
  · exact h
theorem gd_setValue {y : QY} {r v : Int} (h : yGd y) : yGd (aSetValue y r v).2 := by
  unfold aSetValue
  split
  · next c =>
    obtain ⟨a1, a2, a3, a4, a5⟩ := h.1
    have hF : Fok3 (opF (yS y) r.toNat) := a1.1 _ (a1.2.1 r.toNat (by omega))
    have hN : Nok (v * 1024) 1 := ⟨by omega, by omega, by omega, by omega⟩
    have hl := nlw_top hF hN
    have hu := nup_top hF hN
    have hv : -1048575 ≤ nNear (yS y) r.toNat v ∧ nNear (yS y) r.toNat v ≤ 1048575 := by
      unfold nNear npk
      split
      · exact hu
      · exact hl
    refine gd_push h ⟨⟨a1.1, a1.2.1, fun i hi => ?_, a1.2.2.2⟩, fun i hi => ?_, a3, a4, a5⟩
    · show -1048576 ≤ (if i = r.toNat then nNear (yS y) r.toNat v else sVa (yS y) i) ∧ (if i = r.toNat then nNear (yS y) r.toNat v else sVa (yS y) i) ≤ 1048576
      have := a1.2.2.1 i hi
      split <;> omega
    · show -1048575 ≤ (if i = r.toNat then nNear (yS y) r.toNat v else sVa (yS y) i) ∧ (if i = r.toNat then nNear (yS y) r.toNat v else sVa (yS y) i) ≤ 1048575
      have := a2 i hi
      split <;> omega
  · exact h
theorem gd_setMode {y : QY} {m : Int} (h : yGd y) : yGd (aSetMode y m).2 := by
  unfold aSetMode
  split
  · next c =>
    obtain ⟨a1, a2, a3, a4, a5⟩ := h.1
    exact gd_push h ⟨⟨a1.1, a1.2.1, a1.2.2.1, by show m.toNat ≤ 4; omega, a1.2.2.2.2⟩, a2, a3, a4, a5⟩
  · exact h
theorem gd_setBits {y : QY} {m : Int} (h : yGd y) : yGd (aSetBits y m).2 := by
  unfold aSetBits
  split
  · next c =>
    obtain ⟨a1, a2, a3, a4, a5⟩ := h.1
    exact gd_push h ⟨⟨a1.1, a1.2.1, a1.2.2.1, a1.2.2.2.1, by show 1 ≤ m.toNat; omega, by show m.toNat ≤ 8; omega⟩, a2, a3, a4, a5⟩
  · exact h
theorem gd_setSeed {y : QY} {s : Int32} (h : yGd y) : yGd (aSetSeed y s).2 := by
  unfold aSetSeed
  obtain ⟨a1, a2, a3, a4, a5⟩ := h.1
  exact gd_push h ⟨⟨a1.1, a1.2.1, a1.2.2.1, a1.2.2.2.1, a1.2.2.2.2⟩, a2, a3, a4, a5⟩
theorem gd_operate {y : QY} {k t a b : Int} (h : yGd y) : yGd (aOperate y k t a b).2 := by
  unfold aOperate
  split
  · next c =>
    split
    · exact h
    · next c2 => exact gd_push h (op_g h.1 ⟨by omega, by omega, by omega, by omega⟩ (fun z => c2 ⟨by omega, z.2⟩))
  · exact h
theorem gd_type {y : QY} {c : Int} (h : yGd y) : yGd (aType y c).2 := by
  obtain ⟨b1, b2, c1, c2, c3⟩ := id h
  unfold aType
  split
  · split
    · next c0 c4 =>
      refine ⟨b1, b2, by show yL y + 1 ≤ 80; omega, fun i hi => ?_, c3⟩
      change i < yL y + 1 at hi
      show (if i = yL y then c.toNat else yT y i) < 128
      by_cases q : i = yL y
      · rw [if_pos q]; omega
      · rw [if_neg q]; exact c2 i (by omega)
    · exact h
  · exact h
theorem gd_clear {y : QY} (h : yGd y) : yGd (aClear y).2 := by
  obtain ⟨b1, b2, c1, c2, c3⟩ := h
  exact ⟨b1, b2, Nat.zero_le _, fun i hi => absurd hi (by show ¬ i < 0; omega), c3⟩
theorem gd_read {y : QY} (h : yGd y) : yGd (yRead y) := by
  have g := yRd_gB h.ok
  obtain ⟨b1, b2, c1, c2, c3, -⟩ := h
  exact ⟨b1, b2, c1, c2, c3, g⟩
theorem gd_run {y : QY} (h : yGd y) : yGd (aRun y).2 := by
  unfold aRun
  split
  · next c =>
    have g := yRd_gB h.ok
    obtain ⟨g1, g2⟩ := yRun_g h c
    obtain ⟨b1, b2, c1, c2, c3, -⟩ := id h
    exact ⟨g1, hPush_g b2 b1, c1, c2, g2, g⟩
  · exact gd_read h
theorem gd_ifRun {y : QY} {r m : Int} {s : Int32} (h : yGd y) : yGd (aIfRun y r m s).2 := by
  unfold aIfRun
  split
  · exact gd_read h
  · exact h
theorem gd_ensSum {y : QY} {r k : Int} {s : Int32} (h : yGd y) : yGd (aEnsSum y r s k).2 := by
  unfold aEnsSum
  split
  · exact gd_read h
  · exact h
theorem gd_ensSpr {y : QY} {r k : Int} {s : Int32} (h : yGd y) : yGd (aEnsSpr y r s k).2 := by
  unfold aEnsSpr
  split
  · exact gd_read h
  · exact h
theorem gd_clrAcc {y : QY} (h : yGd y) : yGd (aClrAcc y).2 := by
  obtain ⟨a1, a2, a3, a4, a5⟩ := h.1
  exact gd_push h ⟨a1, a2, a3, a4, a5⟩
theorem gd_undo {y : QY} (h : yGd y) : yGd (aUndo y).2 := by
  unfold aUndo
  split
  · exact h
  · next c =>
    obtain ⟨b1, ⟨b2, b3⟩, c1⟩ := h
    refine ⟨b3 _ (by omega), ⟨?_, fun i hi => ?_⟩, c1⟩
    · show (yH y).1 - 1 ≤ 6; omega
    · change i < (yH y).1 - 1 at hi
      exact b3 i (by omega)
