/-! ===== what a program does ===== -/
def trc (s : Nat → QSp) : Nat → Nat → Nat → List Nat
  | 0, _, _ => []
  | f + 1, i, j => if j ≤ i then [] else
    if (s i).1 = 1 ∧ i < (s i).2.2.getD 0 ∧ (s i).2.2.getD 0 < j then i :: ((List.replicate (s i).2.1.1 (trc s f (i + 1) ((s i).2.2.getD 0) ++ [(s i).2.2.getD 0])).flatten ++ trc s f ((s i).2.2.getD 0 + 1) j)
    else i :: trc s f (i + 1) j
theorem trc_fuel {s : Nat → QSp} : ∀ (f g i j : Nat), j - i ≤ f → j - i ≤ g → trc s f i j = trc s g i j := by
  intro f
  induction f with
  | zero =>
    intro g i j h1 h2
    cases g with
    | zero => rfl
    | succ g =>
      show [] = if j ≤ i then [] else _
      rw [if_pos (by omega)]
  | succ f ih =>
    intro g i j h1 h2
    cases g with
    | zero =>
      show (if j ≤ i then [] else _) = []
      rw [if_pos (by omega)]
    | succ g =>
      show (if j ≤ i then [] else _) = (if j ≤ i then [] else _)
      by_cases hj : j ≤ i
      · rw [if_pos hj, if_pos hj]
      · rw [if_neg hj, if_neg hj]
        by_cases hc : (s i).1 = 1 ∧ i < (s i).2.2.getD 0 ∧ (s i).2.2.getD 0 < j
        · rw [if_pos hc, if_pos hc, ih g (i + 1) _ (by omega) (by omega), ih g _ j (by omega) (by omega)]
        · rw [if_neg hc, if_neg hc, ih g (i + 1) j (by omega) (by omega)]
/-- the steps gone through from i to j -/
def trT (s : Nat → QSp) (i j : Nat) : List Nat := trc s (j - i) i j
theorem trT_nil {s : Nat → QSp} {i j : Nat} (h : j ≤ i) : trT s i j = [] := by
  unfold trT
  rw [show j - i = 0 by omega]; rfl
theorem trT_op {s : Nat → QSp} {i j : Nat} (h : i < j) (hs : ¬ (s i).1 = 1) : trT s i j = i :: trT s (i + 1) j := by
  have e : trT s i j = trc s (j - i - 1 + 1) i j := by unfold trT; rw [show j - i - 1 + 1 = j - i by omega]
  rw [e]
  show (if j ≤ i then [] else _) = _
  rw [if_neg (by omega), if_neg (by omega)]
  unfold trT
  rw [trc_fuel (j - i - 1) (j - (i + 1)) (i + 1) j (by omega) (by omega)]
theorem trT_lp {s : Nat → QSp} {i j c : Nat} (hs : (s i).1 = 1) (hp : (s i).2.2 = some c) (h1 : i < c) (h2 : c < j) : trT s i j = i :: ((List.replicate (s i).2.1.1 (trT s (i + 1) c ++ [c])).flatten ++ trT s (c + 1) j) := by
  have e : trT s i j = trc s (j - i - 1 + 1) i j := by unfold trT; rw [show j - i - 1 + 1 = j - i by omega]
  have ec : (s i).2.2.getD 0 = c := by rw [hp]; rfl
  rw [e]
  show (if j ≤ i then [] else _) = _
  rw [if_neg (by omega), ec, if_pos ⟨hs, h1, h2⟩]
  unfold trT
  rw [trc_fuel (j - i - 1) (c - (i + 1)) (i + 1) c (by omega) (by omega), trc_fuel (j - i - 1) (j - (c + 1)) (c + 1) j (by omega) (by omega)]
/-- the operations among steps -/
def opsL (s : Nat → QSp) (l : List Nat) : List Nat := l.filter (fun i => (s i).1 == 0)
theorem opsL_app {s : Nat → QSp} (l m : List Nat) : opsL s (l ++ m) = opsL s l ++ opsL s m := List.filter_append ..
theorem opsL_y {s : Nat → QSp} {i : Nat} (l : List Nat) (h : (s i).1 = 0) : opsL s (i :: l) = i :: opsL s l := by
  unfold opsL
  rw [List.filter_cons_of_pos (by rw [h]; rfl)]
theorem opsL_n {s : Nat → QSp} {i : Nat} (l : List Nat) (h : ¬ (s i).1 = 0) : opsL s (i :: l) = opsL s l := by
  unfold opsL
  rw [List.filter_cons_of_neg (by rw [beq_iff_eq]; exact h)]
theorem opsL_rep {s : Nat → QSp} {l : List Nat} (h : opsL s l = []) (n : Nat) : opsL s (List.replicate n l).flatten = [] := by
  induction n with
  | zero => rfl
  | succ n ih => rw [List.replicate_succ, List.flatten_cons, opsL_app, h, ih]; rfl
theorem opsL_repL {s : Nat → QSp} {l : List Nat} (n : Nat) : (opsL s (List.replicate n l).flatten).length = n * (opsL s l).length := by
  induction n with
  | zero => rw [Nat.zero_mul]; rfl
  | succ n ih => rw [List.replicate_succ, List.flatten_cons, opsL_app, List.length_append, ih, Nat.succ_mul]; omega
/-- loops and their levels are well formed -/
def pWF (n : Nat) (s : Nat → QSp) (lv : Nat → Nat) : Prop := ∀ i, i < n →
  ((s i).1 = 0 ∧ (s i).2.2 = none ∧ Cok (s i).2.1.1 (s i).2.1.2.1 (s i).2.1.2.2.1 (s i).2.1.2.2.2) ∨
  ((s i).1 = 1 ∧ (s i).2.1.1 < 100 ∧ lv i < 3 ∧ ∃ c, (s i).2.2 = some c ∧ i < c ∧ c < n ∧ (s c).1 = 2 ∧ (s c).2.2 = some i ∧ ∀ k, i < k → k < c → lv i < lv k ∧ ∀ m, (s k).2.2 = some m → i < m ∧ m < c) ∨
  ((s i).1 = 2 ∧ ∃ o, (s i).2.2 = some o ∧ o < i ∧ (s o).1 = 1 ∧ (s o).2.2 = some i)
section
variable {n : Nat} {s : Nat → QSp} {lv : Nat → Nat}
theorem pWF.sym (h : pWF n s lv) {k m : Nat} (hk : k < n) (e : (s k).2.2 = some m) : (s m).2.2 = some k := by
  rcases h k hk with ⟨-, a, -⟩ | ⟨-, -, -, c, a, -, -, -, b, -⟩ | ⟨-, o, a, -, -, b⟩
  · rw [e] at a; exact absurd a (by simp)
  · rw [e] at a; rw [Option.some.inj a]; exact b
  · rw [e] at a; rw [Option.some.inj a]; exact b
def bal (s : Nat → QSp) (p j : Nat) : Prop := ∀ k, p ≤ k → k < j → ∀ m, (s k).2.2 = some m → p ≤ m ∧ m < j
/-- the other parenthesis -/
def pcl (s : Nat → QSp) (o : Nat) : Nat := (s o).2.2.getD 0
/-- what is still to be gone through: within d loops, at place p -/
def rest (n : Nat) (s : Nat → QSp) (og rl : Nat → Nat) : Nat → Nat → List Nat
  | 0, p => trT s p n
  | d + 1, p => trT s p (pcl s (og d)) ++ (pcl s (og d) :: ((List.replicate (rl d - 1) (trT s (og d + 1) (pcl s (og d)) ++ [pcl s (og d)])).flatten ++ rest n s og rl d (pcl s (og d) + 1)))
def vld (n : Nat) (s : Nat → QSp) (lv og rl : Nat → Nat) : Nat → Nat → Prop
  | 0, p => p ≤ n ∧ bal s p n
  | d + 1, p => (og d < n ∧ (s (og d)).1 = 1 ∧ (s (og d)).2.2 = some (pcl s (og d)) ∧ og d < p ∧ p ≤ pcl s (og d) ∧ pcl s (og d) < n ∧ 1 ≤ rl d ∧ rl d < 100 ∧ d ≤ lv (og d) ∧ bal s p (pcl s (og d)) ∧ ∀ k, p ≤ k → k < pcl s (og d) → d + 1 ≤ lv k) ∧ vld n s lv og rl d (pcl s (og d) + 1)
theorem rest_cg {og rl og' rl' : Nat → Nat} : ∀ {d p : Nat}, (∀ i, i < d → og i = og' i ∧ rl i = rl' i) → rest n s og rl d p = rest n s og' rl' d p := by
  intro d
  induction d with
  | zero => intro p _; rfl
  | succ d ih =>
    intro p h
    show trT s p (pcl s (og d)) ++ (pcl s (og d) :: ((List.replicate (rl d - 1) (trT s (og d + 1) (pcl s (og d)) ++ [pcl s (og d)])).flatten ++ rest n s og rl d (pcl s (og d) + 1))) = trT s p (pcl s (og' d)) ++ (pcl s (og' d) :: ((List.replicate (rl' d - 1) (trT s (og' d + 1) (pcl s (og' d)) ++ [pcl s (og' d)])).flatten ++ rest n s og' rl' d (pcl s (og' d) + 1)))
    rw [(h d (by omega)).1, (h d (by omega)).2, ih (fun i hi => h i (by omega))]
theorem vld_cg {og rl og' rl' : Nat → Nat} : ∀ {d p : Nat}, (∀ i, i < d → og i = og' i ∧ rl i = rl' i) → vld n s lv og rl d p → vld n s lv og' rl' d p := by
  intro d
  induction d with
  | zero => intro p _ h; exact h
  | succ d ih =>
    intro p h hv
    obtain ⟨a, b⟩ := hv
    have e := h d (by omega)
    have b' := ih (fun i hi => h i (by omega)) b
    rw [e.1] at a b'
    rw [e.2] at a
    exact ⟨a, b'⟩
/-- behind a loop -/
theorem bal_past (hW : pWF n s lv) {p c j : Nat} (hb : bal s p j) (hj : j ≤ n) (hp : (s p).2.2 = some c) (hpn : p < n) (h1 : (s p).1 = 1) : bal s (c + 1) j := by
  intro k k1 k2 m hm
  have sy := hW.sym (k := k) (m := m) (by omega) hm
  rcases hW p hpn with ⟨a, -, -⟩ | ⟨-, -, -, c', a, b1, b2, b3, b4, b5⟩ | ⟨a, -⟩
  · omega
  · rw [hp] at a
    have a := Option.some.inj a
    subst a
    have hb' := hb k (by omega) k2 m hm
    refine ⟨?_, hb'.2⟩
    rcases Nat.lt_trichotomy m c with q | q | q
    · rcases Nat.lt_or_ge p m with q2 | q2
      · have := (b5 m q2 q).2 k sy
        omega
      · have e : m = p := by omega
        rw [e, hp] at sy
        have := Option.some.inj sy
        omega
    · rw [q, b4] at sy
      have := Option.some.inj sy
      omega
    · omega
  · omega
theorem bal_op (hW : pWF n s lv) {p j : Nat} (hb : bal s p j) (hj : j ≤ n) (h0 : (s p).2.2 = none) : bal s (p + 1) j := by
  intro k k1 k2 m hm
  have sy := hW.sym (k := k) (m := m) (by omega) hm
  have hb' := hb k (by omega) k2 m hm
  refine ⟨?_, hb'.2⟩
  rcases Nat.lt_or_ge p m with q | q
  · omega
  · have e : m = p := by omega
    rw [e, h0] at sy
    exact absurd sy (by simp)
theorem vld.le {og rl : Nat → Nat} {d p : Nat} (h : vld n s lv og rl d p) : p ≤ n := by
  cases d with
  | zero => exact h.1
  | succ d => obtain ⟨⟨-, -, -, -, a, b, -⟩, -⟩ := h; omega
theorem vld_end {og rl : Nat → Nat} {d p : Nat} (h : vld n s lv og rl d p) (hp : n ≤ p) : d = 0 := by
  cases d with
  | zero => rfl
  | succ d => obtain ⟨⟨-, -, -, -, a, b, -⟩, -⟩ := h; omega
end
