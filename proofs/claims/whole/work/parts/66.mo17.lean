/-! ===== Model: setFormat ===== -/
theorem h_fm {S : QSt} {E : QLe} {k j : Nat} {F : Nat × Nat × Nat} (hj : j < 40) (hne : ¬ (3 * k ≤ j ∧ j < 3 * k + 3)) : pgH ((fun i => if i = k then F else sFm S i), S.2) E j = pgH S E j := by
  unfold pgH
  by_cases c1 : j < 12
  · rw [if_pos c1, if_pos c1]
    have : ¬ j / 3 = k := by omega
    show (if j % 3 = 0 then lI (((if j / 3 = k then F else sFm S (j / 3)).1 : Nat) : Int) else if j % 3 = 1 then lI ((((if j / 3 = k then F else sFm S (j / 3)).2.1 : Nat) : Int) - 10) else lI ((((if j / 3 = k then F else sFm S (j / 3)).2.2 : Nat) : Int) - 10)) = _
    rw [if_neg this]
  · rw [if_neg c1, if_neg c1]
