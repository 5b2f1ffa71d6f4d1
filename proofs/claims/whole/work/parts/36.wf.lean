/-! ===== what is read is well formed ===== -/
def clP (n : Nat) (s : Nat → QSp) (lv : Nat → Nat) (i c : Nat) : Prop := (s i).2.2 = some c ∧ i < c ∧ c < n ∧ (s c).1 = 2 ∧ (s c).2.2 = some i ∧ ∀ k, i < k → k < c → lv i < lv k ∧ ∀ m, (s k).2.2 = some m → i < m ∧ m < c
def pWp (n : Nat) (s : Nat → QSp) (dp : Nat) (op lv : Nat → Nat) : Prop :=
  (∀ j, j < dp → op j < n ∧ (s (op j)).1 = 1 ∧ (s (op j)).2.2 = none ∧ lv (op j) = j ∧ ∀ k, op j < k → k < n → j < lv k ∧ ∀ m, (s k).2.2 = some m → op j < m) ∧
  (∀ i, i < n → ∀ m, (s i).2.2 = some m → m < n) ∧
  (∀ i, i < n → ((s i).1 = 0 ∧ (s i).2.2 = none ∧ Cok (s i).2.1.1 (s i).2.1.2.1 (s i).2.1.2.2.1 (s i).2.1.2.2.2) ∨
    ((s i).1 = 1 ∧ (s i).2.1.1 < 100 ∧ lv i < 3 ∧ ((∃ j, j < dp ∧ i = op j) ∨ ∃ c, clP n s lv i c)) ∨
    ((s i).1 = 2 ∧ ∃ o, (s i).2.2 = some o ∧ o < i ∧ (s o).1 = 1 ∧ (s o).2.2 = some i))
theorem pAdd_n {pg : QPg} {x : QSp} {i : Nat} (h : i ≠ pg.1) : (pAdd pg x).2 i = pg.2 i := if_neg h
theorem pAdd_s {pg : QPg} {x : QSp} : (pAdd pg x).2 pg.1 = x := if_pos rfl
theorem clP.add {pg : QPg} {x : QSp} {lv : Nat → Nat} {v i c : Nat} (h : clP pg.1 pg.2 lv i c) : clP (pg.1 + 1) (pAdd pg x).2 (nup1 lv pg.1 v) i c := by
  obtain ⟨a1, a2, a3, a4, a5, a6⟩ := h
  refine ⟨by rw [pAdd_n (by omega)]; exact a1, a2, by omega, by rw [pAdd_n (by omega)]; exact a4, by rw [pAdd_n (by omega)]; exact a5, fun k k1 k2 => ?_⟩
  rw [nup1_n (by omega), nup1_n (by omega), pAdd_n (by omega)]
  exact a6 k k1 k2
/-- a step that is an operation or opens a loop -/
theorem pWp_add {pg : QPg} {x : QSp} {dp : Nat} {op lv : Nat → Nat} (hx : x.2.2 = none) (h : pWp pg.1 pg.2 dp op lv)
    (hn : (x.1 = 0 ∧ Cok x.2.1.1 x.2.1.2.1 x.2.1.2.2.1 x.2.1.2.2.2)) : pWp (pg.1 + 1) (pAdd pg x).2 dp op (nup1 lv pg.1 dp) := by
  obtain ⟨h1, h2, h3⟩ := h
  refine ⟨fun j hj => ?_, fun i hi m hm => ?_, fun i hi => ?_⟩
  · obtain ⟨a1, a2, a3, a4, a5⟩ := h1 j hj
    rw [pAdd_n (by omega), nup1_n (by omega)]
    refine ⟨by omega, a2, a3, a4, fun k k1 k2 => ?_⟩
    by_cases q : k = pg.1
    · rw [q, nup1_s, pAdd_s, hx]
      exact ⟨hj, fun m hm => absurd hm (by simp)⟩
    · rw [nup1_n q, pAdd_n q]
      exact a5 k k1 (by omega)
  · by_cases q : i = pg.1
    · rw [q, pAdd_s, hx] at hm; exact absurd hm (by simp)
    · rw [pAdd_n q] at hm
      have := h2 i (by omega) m hm
      omega
  · by_cases q : i = pg.1
    · rw [q, pAdd_s]
      exact Or.inl ⟨hn.1, hx, hn.2⟩
    · rw [pAdd_n q, nup1_n q]
      rcases h3 i (by omega) with a | ⟨a1, a2, a2', a3⟩ | ⟨a1, o, a2, a3, a4, a5⟩
      · exact Or.inl a
      · refine Or.inr (Or.inl ⟨a1, a2, a2', ?_⟩)
        rcases a3 with ⟨j, b1, b2⟩ | ⟨c, b⟩
        · exact Or.inl ⟨j, b1, b2⟩
        · exact Or.inr ⟨c, b.add⟩
      · refine Or.inr (Or.inr ⟨a1, o, a2, a3, ?_⟩)
        rw [pAdd_n (by omega)]
        exact ⟨a4, a5⟩
theorem pWp_opn {pg : QPg} {ct dp : Nat} {op lv : Nat → Nat} (h : pWp pg.1 pg.2 dp op lv) (hd : dp < 3) (hc : ct < 100) : pWp (pg.1 + 1) (pAdd pg (1, (ct, 0, 0, 0), none)).2 (dp + 1) (fun i => if i = dp then pg.1 else op i) (nup1 lv pg.1 dp) := by
  obtain ⟨h1, h2, h3⟩ := h
  refine ⟨fun j hj => ?_, fun i hi m hm => ?_, fun i hi => ?_⟩
  · dsimp only
    by_cases qj : j = dp
    · rw [if_pos qj, pAdd_s, nup1_s]
      exact ⟨by omega, rfl, rfl, qj.symm, fun k k1 k2 => by omega⟩
    · rw [if_neg qj]
      obtain ⟨a1, a2, a3, a4, a5⟩ := h1 j (by omega)
      rw [pAdd_n (by omega), nup1_n (by omega)]
      refine ⟨by omega, a2, a3, a4, fun k k1 k2 => ?_⟩
      by_cases q : k = pg.1
      · rw [q, nup1_s, pAdd_s]
        exact ⟨by omega, fun m hm => absurd hm (by simp)⟩
      · rw [nup1_n q, pAdd_n q]
        exact a5 k k1 (by omega)
  · by_cases q : i = pg.1
    · rw [q, pAdd_s] at hm; exact absurd hm (by simp)
    · rw [pAdd_n q] at hm
      have := h2 i (by omega) m hm
      omega
  · by_cases q : i = pg.1
    · rw [q, pAdd_s, nup1_s]
      exact Or.inr (Or.inl ⟨rfl, hc, hd, Or.inl ⟨dp, by omega, (if_pos rfl).symm⟩⟩)
    · rw [pAdd_n q, nup1_n q]
      rcases h3 i (by omega) with a | ⟨a1, a2, a2', a3⟩ | ⟨a1, o, a2, a3, a4, a5⟩
      · exact Or.inl a
      · refine Or.inr (Or.inl ⟨a1, a2, a2', ?_⟩)
        rcases a3 with ⟨j, b1, b2⟩ | ⟨c, b⟩
        · exact Or.inl ⟨j, by omega, by show i = if j = dp then pg.1 else op j; rw [if_neg (by omega)]; exact b2⟩
        · exact Or.inr ⟨c, b.add⟩
      · refine Or.inr (Or.inr ⟨a1, o, a2, a3, ?_⟩)
        rw [pAdd_n (by omega)]
        exact ⟨a4, a5⟩
theorem pCls_n {pg : QPg} {o i : Nat} (h1 : i ≠ pg.1) (h2 : i ≠ o) : (pCls pg o).2 i = pg.2 i := by
  show (if i = o then _ else (if i = pg.1 then _ else pg.2 i)) = _
  rw [if_neg h2, if_neg h1]
theorem pCls_e {pg : QPg} {o : Nat} (h : o ≠ pg.1) : (pCls pg o).2 pg.1 = (2, (0, 0, 0, 0), some o) := by
  show (if pg.1 = o then _ else (if pg.1 = pg.1 then ((2, (0, 0, 0, 0), some o) : QSp) else pg.2 pg.1)) = _
  rw [if_neg (by omega), if_pos rfl]
theorem pCls_o {pg : QPg} {o : Nat} (h : o ≠ pg.1) : (pCls pg o).2 o = ((pg.2 o).1, (pg.2 o).2.1, some pg.1) := by
  show (if o = o then ((if o = pg.1 then ((2, (0, 0, 0, 0), some o) : QSp) else pg.2 o).1, (if o = pg.1 then ((2, (0, 0, 0, 0), some o) : QSp) else pg.2 o).2.1, some pg.1) else _) = _
  rw [if_pos rfl, if_neg h]
theorem pWp_cls {pg : QPg} {dp : Nat} {op lv : Nat → Nat} (h : pWp pg.1 pg.2 dp op lv) (hd : 1 ≤ dp) : pWp (pg.1 + 1) (pCls pg (op (dp - 1))).2 (dp - 1) op (nup1 lv pg.1 (dp - 1)) := by
  obtain ⟨h1, h2, h3⟩ := h
  obtain ⟨o1, o2, o3, o4, o5⟩ := h1 (dp - 1) (by omega)
  generalize ho : op (dp - 1) = o at o1 o2 o3 o4 o5 ⊢
  have ne : o ≠ pg.1 := by omega
  have lt : ∀ j, j < dp - 1 → op j < o := fun j hj => by
    obtain ⟨a1, -, -, a4, -⟩ := h1 j (by omega)
    rcases Nat.lt_trichotomy (op j) o with q | q | q
    · exact q
    · rw [q] at a4; omega
    · have := (o5 (op j) q a1).1; omega
  refine ⟨fun j hj => ?_, fun i hi m hm => ?_, fun i hi => ?_⟩
  · obtain ⟨a1, a2, a3, a4, a5⟩ := h1 j (by omega)
    have l1 := lt j hj
    rw [pCls_n (by omega) (by omega), nup1_n (by omega)]
    refine ⟨by omega, a2, a3, a4, fun k k1 k2 => ?_⟩
    by_cases q : k = pg.1
    · rw [q, nup1_s, pCls_e ne]
      exact ⟨hj, fun m hm => by have := Option.some.inj hm; omega⟩
    · rw [nup1_n q]
      refine ⟨(a5 k k1 (by omega)).1, fun m hm => ?_⟩
      by_cases q2 : k = o
      · rw [q2, pCls_o ne] at hm
        have := Option.some.inj hm; omega
      · rw [pCls_n q q2] at hm
        exact (a5 k k1 (by omega)).2 m hm
  · by_cases q : i = pg.1
    · rw [q, pCls_e ne] at hm; have := Option.some.inj hm; omega
    · by_cases q2 : i = o
      · rw [q2, pCls_o ne] at hm; have := Option.some.inj hm; omega
      · rw [pCls_n q q2] at hm
        have := h2 i (by omega) m hm
        omega
  · by_cases q : i = pg.1
    · refine Or.inr (Or.inr ⟨by rw [q, pCls_e ne], o, by rw [q, pCls_e ne], by omega, by rw [pCls_o ne]; exact o2, by rw [pCls_o ne, q]⟩)
    · by_cases q2 : i = o
      · rcases h3 o o1 with ⟨a, -⟩ | ⟨a1, a2, a3, -⟩ | ⟨a, -⟩
        · omega
        · rw [q2, pCls_o ne, nup1_n ne]
          refine Or.inr (Or.inl ⟨a1, a2, a3, Or.inr ⟨pg.1, ?_⟩⟩)
          refine ⟨by rw [pCls_o ne], by omega, by omega, by rw [pCls_e ne], by rw [pCls_e ne], fun k k1 k2 => ?_⟩
          rw [nup1_n (by omega), nup1_n (by omega), pCls_n (by omega) (by omega)]
          have b := o5 k k1 k2
          exact ⟨by omega, fun m hm => ⟨b.2 m hm, h2 k (by omega) m hm⟩⟩
        · omega
      · rw [pCls_n q q2, nup1_n q]
        rcases h3 i (by omega) with a | ⟨a1, a2, a2', a3⟩ | ⟨a1, o', a2, a3, a4, a5⟩
        · exact Or.inl a
        · refine Or.inr (Or.inl ⟨a1, a2, a2', ?_⟩)
          rcases a3 with ⟨j, b1, b2⟩ | ⟨c, b1, b2, b3, b4, b5, b6⟩
          · refine Or.inl ⟨j, ?_, b2⟩
            rcases Nat.lt_or_ge j (dp - 1) with z | z
            · exact z
            · have : j = dp - 1 := by omega
              rw [this, ho] at b2; omega
          · refine Or.inr ⟨c, ?_⟩
            have co : c ≠ o := fun z => by rw [z] at b4; omega
            have out : ¬ (i < o ∧ o < c) := fun z => by
              have := (o5 c z.2 b3).2 i b5
              omega
            refine ⟨by rw [pCls_n q q2]; exact b1, b2, by omega, by rw [pCls_n (by omega) co]; exact b4, by rw [pCls_n (by omega) co]; exact b5, fun k k1 k2 => ?_⟩
            rw [nup1_n (by omega), nup1_n (by omega), pCls_n (by omega) (by omega)]
            exact b6 k k1 k2
        · refine Or.inr (Or.inr ⟨a1, o', a2, a3, ?_⟩)
          have : o' ≠ o := fun z => by rw [z, o3] at a5; exact absurd a5 (by simp)
          rw [pCls_n (by omega) this]
          exact ⟨a4, a5⟩
theorem pTake_wf {q q' : QPs} {c i : Nat} (hi : gInv q i) (h : pTake q c = some q') (hw : ∃ lv, pWp q.1.1 q.1.2 q.2.1.1 q.2.1.2 lv) : ∃ lv, pWp q'.1.1 q'.1.2 q'.2.1.1 q'.2.1.2 lv := by
  obtain ⟨pg, ⟨dp, op⟩, wn, ct, kd, tg, fi⟩ := q
  obtain ⟨i1, i2, i3, i4, i5, i6, i7, i8, i9⟩ := hi
  dsimp only at i1 i2 i3 i4 i5 i6 i7 i8 i9
  obtain ⟨lv, hw⟩ := hw
  dsimp only at hw
  unfold pTake at h
  dsimp only [isRg, isDg] at h
  have hwn : wn = 0 ∨ wn = 1 ∨ wn = 2 ∨ wn = 3 ∨ wn = 4 ∨ wn = 5 ∨ wn = 6 ∨ wn = 7 ∨ wn = 8 ∨ wn = 9 ∨ wn = 10 := by omega
  rcases hwn with rfl | rfl | rfl | rfl | rfl | rfl | rfl | rfl | rfl | rfl | rfl
  all_goals
    simp only [Nat.reduceEqDiff, if_true, if_false, true_and, false_and] at h
    repeat' split at h
  all_goals first
    | (simp only [reduceCtorEq] at h; done)
    | (obtain rfl := Option.some.inj h
       first
         | exact ⟨lv, hw⟩
         | exact ⟨_, pWp_cls hw (by omega)⟩
         | exact ⟨_, pWp_opn hw (by omega) (by omega)⟩
         | exact ⟨_, pWp_add rfl hw ⟨rfl, by dsimp only; omega, by dsimp only; omega, by dsimp only; omega, by dsimp only; omega⟩⟩)
theorem pRd_wf {tx : Nat → Nat} : ∀ {n i : Nat} {q : QPs}, gInv q i → (∃ lv, pWp q.1.1 q.1.2 q.2.1.1 q.2.1.2 lv) → (pRd tx n i q).1 = none → ∃ lv, pWF (pRd tx n i q).2.1.1 (pRd tx n i q).2.1.2 lv := by
  intro n
  induction n with
  | zero =>
    intro i q h hw he
    change (if q.2.1.1 = 0 ∧ q.2.2.1 = 0 then none else some i) = none at he
    by_cases z : q.2.1.1 = 0 ∧ q.2.2.1 = 0
    · obtain ⟨lv, hw⟩ := hw
      rw [z.1] at hw
      obtain ⟨w1, w2, w3⟩ := hw
      refine ⟨lv, fun i hi => ?_⟩
      rcases w3 i hi with a | ⟨a1, a2, a2', a3⟩ | a
      · exact Or.inl a
      · rcases a3 with ⟨j, b, -⟩ | ⟨c, b⟩
        · omega
        · exact Or.inr (Or.inl ⟨a1, a2, a2', c, b⟩)
      · exact Or.inr (Or.inr a)
    · rw [if_neg z] at he; exact absurd he (by simp)
  | succ n ih =>
    intro i q h hw he
    change (match pTake q (tx i) with | none => (some i, q) | some q' => pRd tx n (i + 1) q').1 = none at he
    show ∃ lv, pWF (match pTake q (tx i) with | none => (some i, q) | some q' => pRd tx n (i + 1) q').2.1.1 (match pTake q (tx i) with | none => (some i, q) | some q' => pRd tx n (i + 1) q').2.1.2 lv
    cases hq : pTake q (tx i) with
    | none => rw [hq] at he; exact absurd he (by simp)
    | some q' =>
      rw [hq] at he
      exact ih (pTake_inv h hq) (pTake_wf h hq hw) he
theorem pBeg_wf {q : QPs} : ∃ lv, pWp (pBeg q).1.1 (pBeg q).1.2 (pBeg q).2.1.1 (pBeg q).2.1.2 lv := ⟨fun _ => 0, fun j hj => absurd hj (by show ¬ j < 0; omega), fun j hj => absurd hj (by show ¬ j < 0; omega), fun j hj => absurd hj (by show ¬ j < 0; omega)⟩
