/-! ===== a pure reading of bytecode: the world is a function from addresses to cells, a method's body is a formula ===== -/
abbrev QCl : Type := (Nat × vp_A) ⊕ (Nat × List Value)
abbrev QWd : Type := Nat → Option QCl
abbrev QLL : Type := List (Option Value)
abbrev QK : Type := Nat → QLL → List Value → QWd → Nat → Nat → Prop
abbrev QPo : Type := Option Value → QWd → Prop
abbrev QTT : Type := List Value → QWd → Nat → QPo → Prop
/-- a call: its kind (0 static, 1 virtual, 2 constructor, 3 constructor of a nest mate, 8 Object(), 9 arraycopy), how many values lie over the receiver, the receiver's class, what it does, the cells and slots that it makes -/
abbrev QI : Type := Nat × Nat × Nat × QTT × Nat × Nat
def q_set (w : QWd) (a : Nat) (e : QCl) : QWd := fun b => if b = a then some e else w b
theorem q_set_s (w : QWd) (a : Nat) (e : QCl) : q_set w a e a = some e := if_pos rfl
theorem q_set_n (w : QWd) {a b : Nat} (e : QCl) (h : b ≠ a) : q_set w a e b = w b := if_neg h
theorem q_set_ss (w : QWd) (a : Nat) (e e' : QCl) : q_set (q_set w a e) a e' = q_set w a e' := by
  funext b
  by_cases h : b = a <;> simp [q_set, h]
/-- may be written: all cells but the script -/
def q_own : QCl → Bool
  | .inl x => !(x.1 == 6)
  | .inr _ => true
def q_wr (w : QWd) (q : Nat) : Prop := ∃ e, w q = some e ∧ q_own e = true
/-- the locals by their numbers -/
def q_get : QLL → Nat → Option Value
  | [], _ => none
  | x :: _, 0 => x
  | _ :: t, i + 1 => q_get t i
def q_clr : Option Value → Option Value
  | some v => if v.category = 2 then none else some v
  | none => none
def q_st1 : QLL → Nat → Value → QLL
  | [], _, _ => []
  | _ :: t, 0, v => some v :: t
  | x :: t, 1, v => q_clr x :: q_st1 t 0 v
  | x :: t, i + 2, v => x :: q_st1 t (i + 1) v
def q_st2 : QLL → Nat → Value → QLL
  | [], _, _ => []
  | _ :: [], 0, _ => [none]
  | _ :: _ :: t, 0, v => some v :: none :: t
  | x :: t, 1, v => q_clr x :: q_st2 t 0 v
  | x :: t, i + 2, v => x :: q_st2 t (i + 1) v
def q_ent : List Value → QLL
  | [] => []
  | v :: vs => if v.category = 2 then some v :: none :: q_ent vs else some v :: q_ent vs
def q_entry (n : Nat) (vs : List Value) : QLL := q_ent vs ++ List.replicate (n - (q_ent vs).length) none
theorem q_st1_get : ∀ (L : QLL) (i : Nat) (v : Value) (j : Nat) (u : Value), q_get (q_st1 L i v) j = some u → (j = i ∧ u = v) ∨ (j ≠ i ∧ q_get L j = some u ∧ ¬ (j + 1 = i ∧ u.category = 2))
  | [], i, v, j, u, h => by simp [q_st1, q_get] at h
  | x :: t, 0, v, j, u, h => by
    cases j with
    | zero => left; simp [q_st1, q_get] at h; exact ⟨rfl, h.symm⟩
    | succ j => right; simp [q_st1, q_get] at h; exact ⟨by omega, h, by omega⟩
  | x :: t, 1, v, j, u, h => by
    cases j with
    | zero =>
      right
      simp only [q_st1, q_get] at h
      cases x with
      | none => simp [q_clr] at h
      | some y =>
        simp only [q_clr] at h
        split at h
        · cases h
        · next hc =>
          cases h
          exact ⟨by omega, rfl, fun q => hc q.2⟩
    | succ j =>
      simp only [q_st1, q_get] at h
      rcases q_st1_get t 0 v j u h with ⟨h1, h2⟩ | ⟨h1, h2, h3⟩
      · left; exact ⟨by omega, h2⟩
      · right; exact ⟨by omega, h2, by omega⟩
  | x :: t, i + 2, v, j, u, h => by
    cases j with
    | zero => right; simp [q_st1, q_get] at h; exact ⟨by omega, h, by omega⟩
    | succ j =>
      simp only [q_st1, q_get] at h
      rcases q_st1_get t (i + 1) v j u h with ⟨h1, h2⟩ | ⟨h1, h2, h3⟩
      · left; exact ⟨by omega, h2⟩
      · right; exact ⟨by omega, h2, fun q => h3 ⟨by omega, q.2⟩⟩
theorem q_st2_get : ∀ (L : QLL) (i : Nat) (v : Value) (j : Nat) (u : Value), q_get (q_st2 L i v) j = some u → (j = i ∧ u = v) ∨ (j ≠ i ∧ j ≠ i + 1 ∧ q_get L j = some u ∧ ¬ (j + 1 = i ∧ u.category = 2))
  | [], i, v, j, u, h => by simp [q_st2, q_get] at h
  | x :: [], 0, v, j, u, h => by
    cases j with
    | zero => simp [q_st2, q_get] at h
    | succ j => simp [q_st2, q_get] at h
  | x :: y :: t, 0, v, j, u, h => by
    match j, h with
    | 0, h => left; simp [q_st2, q_get] at h; exact ⟨rfl, h.symm⟩
    | 1, h => simp [q_st2, q_get] at h
    | j + 2, h => right; simp [q_st2, q_get] at h; exact ⟨by omega, by omega, h, by omega⟩
  | x :: t, 1, v, j, u, h => by
    cases j with
    | zero =>
      right
      simp only [q_st2, q_get] at h
      cases x with
      | none => simp [q_clr] at h
      | some y =>
        simp only [q_clr] at h
        split at h
        · cases h
        · next hc =>
          cases h
          exact ⟨by omega, by omega, rfl, fun q => hc q.2⟩
    | succ j =>
      simp only [q_st2, q_get] at h
      rcases q_st2_get t 0 v j u h with ⟨h1, h2⟩ | ⟨h1, h1', h2, h3⟩
      · left; exact ⟨by omega, h2⟩
      · right; exact ⟨by omega, by omega, h2, by omega⟩
  | x :: t, i + 2, v, j, u, h => by
    cases j with
    | zero => right; simp [q_st2, q_get] at h; exact ⟨by omega, by omega, h, by omega⟩
    | succ j =>
      simp only [q_st2, q_get] at h
      rcases q_st2_get t (i + 1) v j u h with ⟨h1, h2⟩ | ⟨h1, h1', h2, h3⟩
      · left; exact ⟨by omega, h2⟩
      · right; exact ⟨by omega, by omega, h2, fun q => h3 ⟨by omega, q.2⟩⟩
/-- the machine's locals hold them -/
def q_L (ls : Array Slot) (nL : Nat) (L : QLL) : Prop := ls.size = nL ∧ lv_wf ls ∧ L.length ≤ nL ∧ ∀ (i : Nat) (v : Value), q_get L i = some v → ls[i]? = some (.val v)
def q_as (L : QLL) : List (Nat × Value) := (List.range L.length).filterMap (fun i => (q_get L i).map (fun v => (i, v)))
theorem q_get_lt : ∀ (L : QLL) (i : Nat) (v : Value), q_get L i = some v → i < L.length
  | [], i, v, h => by simp [q_get] at h
  | x :: t, 0, v, h => by simp
  | x :: t, i + 1, v, h => by
    simp only [q_get] at h
    have := q_get_lt t i v h
    simp; omega
theorem q_as_mem {L : QLL} {i : Nat} {v : Value} : (i, v) ∈ q_as L ↔ q_get L i = some v := by
  unfold q_as
  rw [List.mem_filterMap]
  constructor
  · rintro ⟨j, -, hj⟩
    cases hg : q_get L j with
    | none => rw [hg] at hj; cases hj
    | some u =>
      rw [hg] at hj
      simp at hj
      obtain ⟨rfl, rfl⟩ := hj
      exact hg
  · intro h
    exact ⟨i, List.mem_range.mpr (q_get_lt L i v h), by rw [h]; rfl⟩
theorem q_L.has {ls : Array Slot} {nL : Nat} {L : QLL} (h : q_L ls nL L) : lv_has ls nL (q_as L) := ⟨h.1, h.2.1, fun q hq => h.2.2.2 q.1 q.2 (q_as_mem.mp hq)⟩
theorem q_L.of {ls : Array Slot} {nL : Nat} {L : QLL} {l : List (Nat × Value)} (h : lv_has ls nL l) (hn : L.length ≤ nL) (hs : ∀ (i : Nat) (v : Value), q_get L i = some v → (i, v) ∈ l) : q_L ls nL L := ⟨h.1, h.2.1, hn, fun i v hv => h.2.2 (i, v) (hs i v hv)⟩
theorem q_in1 {L : QLL} {i : Nat} {v : Value} (j : Nat) (u : Value) (h : q_get (q_st1 L i v) j = some u) : (j, u) ∈ (i, v) :: (q_as L).filter (fun q => !(q.1 == i) && !(q.1 + 1 == i && q.2.category == 2)) := by
  rcases q_st1_get L i v j u h with ⟨rfl, rfl⟩ | ⟨h1, h2, h3⟩
  · exact List.mem_cons_self
  · refine List.mem_cons_of_mem _ (List.mem_filter.mpr ⟨q_as_mem.mpr h2, ?_⟩)
    have h4 : ¬ (j + 1 = i ∧ u.category = 2) := h3
    simp only [Bool.and_eq_true, Bool.not_eq_true', beq_eq_false_iff_ne, ne_eq, Bool.and_eq_false_iff]
    refine ⟨h1, ?_⟩
    by_cases q : j + 1 = i
    · right; exact fun z => h4 ⟨q, z⟩
    · left; exact q
theorem q_in2 {L : QLL} {i : Nat} {v : Value} (j : Nat) (u : Value) (h : q_get (q_st2 L i v) j = some u) : (j, u) ∈ (i, v) :: (q_as L).filter (fun q => !(q.1 == i) && (!(q.1 == i + 1) && !(q.1 + 1 == i && q.2.category == 2))) := by
  rcases q_st2_get L i v j u h with ⟨rfl, rfl⟩ | ⟨h1, h1', h2, h3⟩
  · exact List.mem_cons_self
  · refine List.mem_cons_of_mem _ (List.mem_filter.mpr ⟨q_as_mem.mpr h2, ?_⟩)
    have h4 : ¬ (j + 1 = i ∧ u.category = 2) := h3
    simp only [Bool.and_eq_true, Bool.not_eq_true', beq_eq_false_iff_ne, ne_eq, Bool.and_eq_false_iff]
    refine ⟨h1, h1', ?_⟩
    by_cases q : j + 1 = i
    · right; exact fun z => h4 ⟨q, z⟩
    · left; exact q
theorem q_ent_args : ∀ (vs : List Value) (i j : Nat) (u : Value), q_get (q_ent vs) j = some u → (i + j, u) ∈ lv_args i vs
  | [], i, j, u, h => by simp [q_ent, q_get] at h
  | v :: vs, i, j, u, h => by
    simp only [q_ent] at h
    by_cases hc : v.category = 2
    · rw [if_pos hc] at h
      match j, h with
      | 0, h => simp [q_get] at h; subst h; simp [lv_args]
      | 1, h => simp [q_get] at h
      | j + 2, h =>
        simp only [q_get] at h
        have := q_ent_args vs (i + 2) j u h
        simp only [lv_args, if_pos hc]
        refine List.mem_cons_of_mem _ ?_
        rw [show i + (j + 2) = i + 2 + j by omega]
        exact this
    · rw [if_neg hc] at h
      match j, h with
      | 0, h => simp [q_get] at h; subst h; simp [lv_args]
      | j + 1, h =>
        simp only [q_get] at h
        have := q_ent_args vs (i + 1) j u h
        simp only [lv_args, if_neg hc]
        refine List.mem_cons_of_mem _ ?_
        rw [show i + (j + 1) = i + 1 + j by omega]
        exact this
theorem q_get_pad : ∀ (L : QLL) (n j : Nat) (u : Value), q_get (L ++ List.replicate n none) j = some u → q_get L j = some u
  | [], n, j, u, h => by
    exfalso
    simp only [List.nil_append] at h
    induction n generalizing j with
    | zero => simp [q_get] at h
    | succ n ih =>
      cases j with
      | zero => simp [List.replicate, q_get] at h
      | succ j => simp only [List.replicate, q_get] at h; exact ih j h
  | x :: t, n, 0, u, h => h
  | x :: t, n, j + 1, u, h => q_get_pad t n j u h
theorem q_st1_len : ∀ (L : QLL) (i : Nat) (v : Value), (q_st1 L i v).length = L.length
  | [], _, _ => rfl
  | _ :: t, 0, v => rfl
  | x :: t, 1, v => by simp [q_st1, q_st1_len t 0 v]
  | x :: t, i + 2, v => by simp [q_st1, q_st1_len t (i + 1) v]
theorem q_st2_len : ∀ (L : QLL) (i : Nat) (v : Value), (q_st2 L i v).length = L.length
  | [], _, _ => rfl
  | _ :: [], 0, v => rfl
  | _ :: _ :: t, 0, v => rfl
  | x :: t, 1, v => by simp [q_st2, q_st2_len t 0 v]
  | x :: t, i + 2, v => by simp [q_st2, q_st2_len t (i + 1) v]
theorem q_ent_len : ∀ vs : List Value, (q_ent vs).length = (lg_sl vs).length
  | [] => rfl
  | v :: vs => by
    have ih := q_ent_len vs
    by_cases hc : v.category = 2
    · simp only [q_ent, lg_sl, if_pos hc, List.flatMap_cons] at ih ⊢
      simp [ih]
    · simp only [q_ent, lg_sl, if_neg hc, List.flatMap_cons] at ih ⊢
      simp [ih]
