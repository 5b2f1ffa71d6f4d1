/-! ===== the machine keeps to the formulas ===== -/
def q_hc (D : va_G) (cy : Nat → ClassId) (U : State) (a : Nat) (H : Heap) : QCl → Prop
  | .inl x => (x.1 = 6 ∧ ∃ (L : Nat) (xs : Nat → Int32), x.2 = (L, .inl xs) ∧ va_X a L xs U H) ∨ (x.1 ≠ 6 ∧ H[a]? = some (vp_cell (cy x.1) x.2))
  | .inr o => va_at D vwCl (a, .inr o) H
def q_M (D : va_G) (cy : Nat → ClassId) (U : State) (w : QWd) (H : Heap) : Prop := ∀ (a : Nat) (x : QCl), w a = some x → q_hc D cy U a H x
theorem q_hc.kept {D : va_G} {cy : Nat → ClassId} {U : State} {a : Nat} {H H1 : Heap} {x : QCl} (h : q_hc D cy U a H x) (hq : H1[a]? = H[a]?) : q_hc D cy U a H1 x := by
  cases x with
  | inl x =>
    rcases h with ⟨h1, L, xs, h2, h3⟩ | ⟨h1, h2⟩
    · exact Or.inl ⟨h1, L, xs, h2, h3.kept hq⟩
    · exact Or.inr ⟨h1, hq.trans h2⟩
  | inr o => exact va_at.kept (q := (a, .inr o)) h hq
theorem q_hc.lt {D : va_G} {cy : Nat → ClassId} {U : State} {a : Nat} {H : Heap} {x : QCl} (h : q_hc D cy U a H x) : a < H.size := by
  cases x with
  | inl x =>
    rcases h with ⟨h1, L, xs, h2, scr, h3, -⟩ | ⟨h1, h2⟩
    · exact (Array.getElem?_eq_some_iff.mp h3).1
    · exact (Array.getElem?_eq_some_iff.mp h2).1
  | inr o => exact va_at.lt (q := (a, .inr o)) h
theorem q_hc.moved {D : va_G} {cy : Nat → ClassId} {u U : State} {a : Nat} {H : Heap} {x : QCl} (hvm : u.vm.Alike U.vm) (h : q_hc D cy u a H x) : q_hc D cy U a H x := by
  cases x with
  | inl x =>
    rcases h with ⟨h1, L, xs, h2, h3⟩ | ⟨h1, h2⟩
    · exact Or.inl ⟨h1, L, xs, h2, h3.moved hvm⟩
    · exact Or.inr ⟨h1, h2⟩
  | inr o => exact h
theorem q_M.moved {D : va_G} {cy : Nat → ClassId} {u U : State} {w : QWd} {H : Heap} (hvm : u.vm.Alike U.vm) (h : q_M D cy u w H) : q_M D cy U w H := fun a x hx => (h a x hx).moved hvm
theorem q_M.set {D : va_G} {cy : Nat → ClassId} {U : State} {w : QWd} {H H1 : Heap} {a : Nat} {x : QCl} (h : q_M D cy U w H) (hx : q_hc D cy U a H1 x) (oq : ∀ q : Nat, q ≠ a → H1[q]? = H[q]?) : q_M D cy U (q_set w a x) H1 := by
  intro b y hy
  by_cases hb : b = a
  · subst hb
    rw [q_set_s] at hy
    cases hy
    exact hx
  · rw [q_set_n _ _ hb] at hy
    exact (h b y hy).kept (oq b hb)
theorem q_M.push {D : va_G} {cy : Nat → ClassId} {U : State} {w : QWd} {H H1 : Heap} {a : Nat} {x : QCl} (h : q_M D cy U w H) (ha : a = H.size) (hx : q_hc D cy U a H1 x) (oq : ∀ q : Nat, q < H.size → H1[q]? = H[q]?) : q_M D cy U (q_set w a x) H1 := by
  intro b y hy
  by_cases hb : b = a
  · subst hb
    rw [q_set_s] at hy
    cases hy
    exact hx
  · rw [q_set_n _ _ hb] at hy
    exact (h b y hy).kept (oq b (h b y hy).lt)
def q_tys (cy : Nat → ClassId) : List (ClassId × FieldType) := [(cy 0, .int), (cy 1, .long), (cy 2, .object (q_eln 2)), (cy 3, .object (q_eln 3)), (cy 4, .object (q_eln 4)), (cy 5, .object (q_eln 5))]
def q_Kn (D : va_G) (cy : Nat → ClassId) (U : State) : Prop := va_K D vwCl (q_tys cy) U ∧ (∀ x ∈ q_nest, va_Nw (.methodLinkNest x.1 x.2.1 x.2.2.1 x.2.2.2) U) ∧ ∀ C ∈ q_over, va_AO C U
theorem q_Kn.warm {D : va_G} {cy : Nat → ClassId} {s U : State} (hW : s.WarmedH U.vm) (h : q_Kn D cy s) : q_Kn D cy U := ⟨va_K.moved hW.alike h.1, fun x hx => va_Nw.warmM hW (h.2.1 x hx), fun C hC => va_AO.moved hW.alike (h.2.2 C hC)⟩
section QS
variable {p : Program} {l : Launch} {e : Env} {R : Room} {s : State} {m : MethodId} {args : Array Value} {below : List Frame} {meth : Method} {c : Code} {Q : State → Prop} {D : va_G} {cy : Nat → ClassId} {nL : Nat} {A : Nat → Prop}
/-- the machine at a place: with every heap that holds the world it comes to Q -/
def q_Sm (p : Program) (l : Launch) (e : Env) (R : Room) (s : State) (m : MethodId) (args : Array Value) (below : List Frame) (meth : Method) (c : Code) (Q : State → Prop) (D : va_G) (cy : Nat → ClassId) (nL : Nat) (A : Nat → Prop) : QK := fun pc L st w sz sl =>
  ∀ (H : Heap) (locs : List Loc) (ls : Array Slot), q_M D cy s w H → H.size = sz → s.heap.size ≤ sz → q_L ls nL L → (∀ q, q_wr w q → A q) → (∀ x ∈ locs, A x.base) → W p l e R s m args below meth c H locs (sz - s.heap.size) sl Q (F0 m pc ls st)
def q_Cx (p : Program) (s : State) (m : MethodId) (args : Array Value) (c : Code) (cc : ByteArray) (nL ow : Nat) (D : va_G) (cy : Nat → ClassId) (A : Nat → Prop) : Prop := p.tables.exec = Jvm.exec ∧ c.code = cc ∧ c.maxLocals = nL ∧ s.vm.findClass (q_ow ow) = some m.cls ∧ (∀ w ∈ q_Ts, w.before args s = true) ∧ q_Kn D cy s ∧ ∀ q, s.heap.size ≤ q → A q
variable {pc pc' : Nat} {L L' : QLL} {st st' t : List Value} {w w' : QWd} {sz sl : Nat} {cc : ByteArray} {ow : Nat}
theorem q_go (row : ∀ (H : Heap) (locs : List Loc) (ls : Array Slot) (cells : Nat), q_L ls nL L → (∀ ls' : Array Slot, q_L ls' nL L' → W p l e R s m args below meth c H locs cells sl Q (F0 m pc' ls' st')) → W p l e R s m args below meth c H locs cells sl Q (F0 m pc ls st))
    (h : q_Sm p l e R s m args below meth c Q D cy nL A pc' L' st' w sz sl) : q_Sm p l e R s m args below meth c Q D cy nL A pc L st w sz sl := by
  intro H locs ls a1 a2 a3 a4 a5 a6
  exact row H locs ls _ a4 (fun ls' hl' => h H locs ls' a1 a2 a3 hl' a5 a6)
/-- an instruction that touches the stack alone -/
theorem q_g0 (row : ∀ (H : Heap) (locs : List Loc) (ls : Array Slot) (cells : Nat), W p l e R s m args below meth c H locs cells sl Q (F0 m pc' ls st') → W p l e R s m args below meth c H locs cells sl Q (F0 m pc ls st))
    (h : q_Sm p l e R s m args below meth c Q D cy nL A pc' L st' w sz sl) : q_Sm p l e R s m args below meth c Q D cy nL A pc L st w sz sl := q_go (fun H locs ls cells hl k => row H locs ls cells (k ls hl)) h
theorem q_g1 {i : Nat} {v : Value} (hv : v.category = 1) (hi : i < L.length) (row : ∀ (H : Heap) (locs : List Loc) (ls : Array Slot) (cells : Nat), lv_has ls nL (q_as L) → i < nL → (∀ ls' : Array Slot, lv_has ls' nL ((i, v) :: (q_as L).filter (fun q => !(q.1 == i) && !(q.1 + 1 == i && q.2.category == 2))) → W p l e R s m args below meth c H locs cells sl Q (F0 m pc' ls' st')) → W p l e R s m args below meth c H locs cells sl Q (F0 m pc ls st))
    (h : q_Sm p l e R s m args below meth c Q D cy nL A pc' (q_st1 L i v) st' w sz sl) : q_Sm p l e R s m args below meth c Q D cy nL A pc L st w sz sl :=
  q_go (fun H locs ls cells hl k => row H locs ls cells hl.has (Nat.lt_of_lt_of_le hi hl.2.2.1) (fun ls' h' => k ls' (q_L.of h' (by rw [q_st1_len]; exact hl.2.2.1) (fun j u hu => q_in1 j u hu)))) h
theorem q_g2 {i : Nat} {v : Value} (hv : v.category = 2) (hi : i + 1 < L.length) (row : ∀ (H : Heap) (locs : List Loc) (ls : Array Slot) (cells : Nat), lv_has ls nL (q_as L) → i + 1 < nL → (∀ ls' : Array Slot, lv_has ls' nL ((i, v) :: (q_as L).filter (fun q => !(q.1 == i) && (!(q.1 == i + 1) && !(q.1 + 1 == i && q.2.category == 2)))) → W p l e R s m args below meth c H locs cells sl Q (F0 m pc' ls' st')) → W p l e R s m args below meth c H locs cells sl Q (F0 m pc ls st))
    (h : q_Sm p l e R s m args below meth c Q D cy nL A pc' (q_st2 L i v) st' w sz sl) : q_Sm p l e R s m args below meth c Q D cy nL A pc L st w sz sl :=
  q_go (fun H locs ls cells hl k => row H locs ls cells hl.has (Nat.lt_of_lt_of_le hi hl.2.2.1) (fun ls' h' => k ls' (q_L.of h' (by rw [q_st2_len]; exact hl.2.2.1) (fun j u hu => q_in2 j u hu)))) h
/-- a load -/
theorem q_gl {i : Nat} {v : Value} (hg : q_get L i = some v) (row : ∀ (H : Heap) (locs : List Loc) (ls : Array Slot) (cells : Nat), ls[i]? = some (.val v) → W p l e R s m args below meth c H locs cells sl Q (F0 m pc' ls st') → W p l e R s m args below meth c H locs cells sl Q (F0 m pc ls st))
    (h : q_Sm p l e R s m args below meth c Q D cy nL A pc' L st' w sz sl) : q_Sm p l e R s m args below meth c Q D cy nL A pc L st w sz sl := q_go (fun H locs ls cells hl k => row H locs ls cells (hl.2.2.2 i v hg) (k ls hl)) h
theorem q_gt {off : Int} (h : 0 ≤ (pc : Int) + off) : (pc : Int) + off = ((q_tg pc off : Nat) : Int) := by
  unfold q_tg
  omega
/-- a branch -/
theorem q_gb {off : Int} {cnd : Prop} {K : QK} (hK : ∀ pc L st w sz sl, K pc L st w sz sl → q_Sm p l e R s m args below meth c Q D cy nL A pc L st w sz sl)
    (row : ∀ (H : Heap) (locs : List Loc) (ls : Array Slot) (cells tgt : Nat), (pc : Int) + off = (tgt : Int) → (cnd → W p l e R s m args below meth c H locs cells sl Q (F0 m tgt ls t)) → (¬ cnd → W p l e R s m args below meth c H locs cells sl Q (F0 m (pc + 3) ls t)) → W p l e R s m args below meth c H locs cells sl Q (F0 m pc ls st))
    (h : q_br K pc off L t w sz sl cnd) : q_Sm p l e R s m args below meth c Q D cy nL A pc L st w sz sl := by
  obtain ⟨h1, h2, h3⟩ := h
  intro H locs ls a1 a2 a3 a4 a5 a6
  exact row H locs ls _ _ (q_gt h1) (fun hc => hK _ _ _ _ _ _ (h2 hc) H locs ls a1 a2 a3 a4 a5 a6) (fun hc => hK _ _ _ _ _ _ (h3 hc) H locs ls a1 a2 a3 a4 a5 a6)
theorem q_wr_set {a : Nat} {x0 x : QCl} (hw : ∀ q, q_wr w q → A q) (h0 : w a = some x0) (ho : q_own x0 = true) : ∀ q, q_wr (q_set w a x) q → A q := by
  rintro q ⟨y, hy, hyo⟩
  by_cases hq : q = a
  · subst hq
    exact hw q ⟨x0, h0, ho⟩
  · rw [q_set_n _ _ hq] at hy
    exact hw q ⟨y, hy, hyo⟩
theorem q_wr_new {a : Nat} {x : QCl} (hw : ∀ q, q_wr w q → A q) (ha : A a) : ∀ q, q_wr (q_set w a x) q → A q := by
  rintro q ⟨y, hy, hyo⟩
  by_cases hq : q = a
  · subst hq
    exact ha
  · rw [q_set_n _ _ hq] at hy
    exact hw q ⟨y, hy, hyo⟩
/-- a store into a cell of the world -/
theorem q_gs {a k : Nat} {x0 x : QCl} (h0 : w a = some x0) (ho : q_own x0 = true)
    (row : ∀ (H : Heap) (locs : List Loc) (ls : Array Slot) (cells : Nat), q_M D cy s w H → (∀ (H1 : Heap), q_hc D cy s a H1 x → H1.size = H.size → (∀ q : Nat, q ≠ a → H1[q]? = H[q]?) → ∀ locs1 : List Loc, (∀ y ∈ locs1, y ∈ locs ∨ y.base = a) → W p l e R s m args below meth c H1 locs1 cells sl Q (F0 m pc' ls st')) → W p l e R s m args below meth c H locs cells sl Q (F0 m pc ls st))
    (h : q_Sm p l e R s m args below meth c Q D cy nL A pc' L st' (q_set w a x) sz sl) : q_Sm p l e R s m args below meth c Q D cy nL A pc L st w sz sl := by
  intro H locs ls a1 a2 a3 a4 a5 a6
  refine row H locs ls _ a1 (fun H1 e1 e2 e3 locs1 hl1 => h H1 locs1 ls (a1.set e1 e3) (e2.trans a2) a3 a4 (q_wr_set a5 h0 ho) (fun y hy => ?_))
  rcases hl1 y hy with z | z
  · exact a6 y z
  · rw [z]
    exact a5 a ⟨x0, h0, ho⟩
theorem q_find {α : Type} {l : List (Nat × Nat × α)} {o i : Nat} {v : α} (h : (l.find? (fun x => x.1 == o && x.2.1 == i)).map (fun x => x.2.2) = some v) : (o, i, v) ∈ l := by
  cases hf : l.find? (fun x => x.1 == o && x.2.1 == i) with
  | none => rw [hf] at h; cases h
  | some y =>
    rw [hf] at h
    have h1 := List.find?_some hf
    have h2 := List.mem_of_find?_eq_some hf
    simp at h1 h
    obtain ⟨e1, e2⟩ := h1
    subst e1; subst e2; subst h
    exact h2
end QS
